theorem dX5_typedName_0 : decode cX5_typedName 0 = .ok (.aload_n 0, 1) := by decide +kernel
theorem dX5_typedName_1 : decode cX5_typedName 1 = .ok (.getfield 64, 3) := by decide +kernel
theorem dX5_typedName_4 : decode cX5_typedName 4 = .ok (.iload_n 1, 1) := by decide +kernel
theorem dX5_typedName_5 : decode cX5_typedName 5 = .ok (.aload_n 0, 1) := by decide +kernel
theorem dX5_typedName_6 : decode cX5_typedName 6 = .ok (.getfield 54, 3) := by decide +kernel
theorem dX5_typedName_9 : decode cX5_typedName 9 = .ok (.invokevirtual 121, 3) := by decide +kernel
theorem dX5_typedName_12 : decode cX5_typedName 12 = .ok (.istore_n 3, 1) := by decide +kernel
theorem dX5_typedName_13 : decode cX5_typedName 13 = .ok (.iload_n 3, 1) := by decide +kernel
theorem dX5_typedName_14 : decode cX5_typedName 14 = .ok (.bipush (-9), 2) := by decide +kernel
theorem dX5_typedName_16 : decode cX5_typedName 16 = .ok (.if_icmp .ne 6, 3) := by decide +kernel
theorem dX5_typedName_22 : decode cX5_typedName 22 = .ok (.aload_n 0, 1) := by decide +kernel
theorem dX5_typedName_23 : decode cX5_typedName 23 = .ok (.getfield 41, 3) := by decide +kernel
theorem dX5_typedName_26 : decode cX5_typedName 26 = .ok (.iload_n 3, 1) := by decide +kernel
theorem dX5_typedName_27 : decode cX5_typedName 27 = .ok (.invokevirtual 124, 3) := by decide +kernel
theorem dX5_typedName_30 : decode cX5_typedName 30 = .ok (.istore 4, 2) := by decide +kernel
theorem dX5_typedName_32 : decode cX5_typedName 32 = .ok (.aload_n 0, 1) := by decide +kernel
theorem dX5_typedName_33 : decode cX5_typedName 33 = .ok (.getfield 45, 3) := by decide +kernel
theorem dX5_typedName_36 : decode cX5_typedName 36 = .ok (.iload_n 3, 1) := by decide +kernel
theorem dX5_typedName_37 : decode cX5_typedName 37 = .ok (.invokevirtual 124, 3) := by decide +kernel
theorem dX5_typedName_40 : decode cX5_typedName 40 = .ok (.istore 5, 2) := by decide +kernel
theorem dX5_typedName_42 : decode cX5_typedName 42 = .ok (.iload 5, 2) := by decide +kernel
theorem dX5_typedName_44 : decode cX5_typedName 44 = .ok (.iconst (-1), 1) := by decide +kernel
theorem dX5_typedName_45 : decode cX5_typedName 45 = .ok (.if_icmp .ne 6, 3) := by decide +kernel
theorem dX5_typedName_51 : decode cX5_typedName 51 = .ok (.aload_n 0, 1) := by decide +kernel
theorem dX5_typedName_52 : decode cX5_typedName 52 = .ok (.iload 5, 2) := by decide +kernel
theorem dX5_typedName_54 : decode cX5_typedName 54 = .ok (.iload_n 2, 1) := by decide +kernel
theorem dX5_typedName_55 : decode cX5_typedName 55 = .ok (.invokevirtual 127, 3) := by decide +kernel
theorem dX5_typedName_58 : decode cX5_typedName 58 = .ok (.aload_n 0, 1) := by decide +kernel
theorem dX5_typedName_59 : decode cX5_typedName 59 = .ok (.iload 4, 2) := by decide +kernel
theorem dX5_typedName_61 : decode cX5_typedName 61 = .ok (.iconst 2, 1) := by decide +kernel
theorem dX5_typedName_62 : decode cX5_typedName 62 = .ok (.iconst 1, 1) := by decide +kernel
theorem dX5_typedName_63 : decode cX5_typedName 63 = .ok (.invokevirtual 131, 3) := by decide +kernel
theorem dX5_typedName_66 : decode cX5_typedName 66 = .ok (.ireturn, 1) := by decide +kernel
theorem dX5_typedName_48 : decode cX5_typedName 48 = .ok (.iload 4, 2) := by decide +kernel
theorem dX5_typedName_50 : decode cX5_typedName 50 = .ok (.ireturn, 1) := by decide +kernel
theorem dX5_typedName_19 : decode cX5_typedName 19 = .ok (.bipush (-7), 2) := by decide +kernel
theorem dX5_typedName_21 : decode cX5_typedName 21 = .ok (.ireturn, 1) := by decide +kernel
theorem dX5_typedFunction_0 : decode cX5_typedFunction 0 = .ok (.aload_n 0, 1) := by decide +kernel
theorem dX5_typedFunction_1 : decode cX5_typedFunction 1 = .ok (.getfield 12, 3) := by decide +kernel
theorem dX5_typedFunction_4 : decode cX5_typedFunction 4 = .ok (.iload_n 2, 1) := by decide +kernel
theorem dX5_typedFunction_5 : decode cX5_typedFunction 5 = .ok (.invokevirtual 137, 3) := by decide +kernel
theorem dX5_typedFunction_8 : decode cX5_typedFunction 8 = .ok (.istore 4, 2) := by decide +kernel
theorem dX5_typedFunction_10 : decode cX5_typedFunction 10 = .ok (.iload 4, 2) := by decide +kernel
theorem dX5_typedFunction_12 : decode cX5_typedFunction 12 = .ok (.ifCond .ge 6, 3) := by decide +kernel
theorem dX5_typedFunction_15 : decode cX5_typedFunction 15 = .ok (.iload 4, 2) := by decide +kernel
theorem dX5_typedFunction_17 : decode cX5_typedFunction 17 = .ok (.ireturn, 1) := by decide +kernel
theorem dX5_typedFunction_18 : decode cX5_typedFunction 18 = .ok (.aload_n 0, 1) := by decide +kernel
theorem dX5_typedFunction_19 : decode cX5_typedFunction 19 = .ok (.iload_n 1, 1) := by decide +kernel
theorem dX5_typedFunction_20 : decode cX5_typedFunction 20 = .ok (.iload 4, 2) := by decide +kernel
theorem dX5_typedFunction_22 : decode cX5_typedFunction 22 = .ok (.iconst (-1), 1) := by decide +kernel
theorem dX5_typedFunction_23 : decode cX5_typedFunction 23 = .ok (.invokevirtual 140, 3) := by decide +kernel
theorem dX5_typedFunction_26 : decode cX5_typedFunction 26 = .ok (.aload_n 0, 1) := by decide +kernel
theorem dX5_typedFunction_27 : decode cX5_typedFunction 27 = .ok (.aload_n 0, 1) := by decide +kernel
theorem dX5_typedFunction_28 : decode cX5_typedFunction 28 = .ok (.getfield 64, 3) := by decide +kernel
theorem dX5_typedFunction_31 : decode cX5_typedFunction 31 = .ok (.iload_n 1, 1) := by decide +kernel
theorem dX5_typedFunction_32 : decode cX5_typedFunction 32 = .ok (.iconst 0, 1) := by decide +kernel
theorem dX5_typedFunction_33 : decode cX5_typedFunction 33 = .ok (.invokevirtual 144, 3) := by decide +kernel
theorem dX5_typedFunction_36 : decode cX5_typedFunction 36 = .ok (.iload_n 2, 1) := by decide +kernel
theorem dX5_typedFunction_37 : decode cX5_typedFunction 37 = .ok (.iload_n 3, 1) := by decide +kernel
theorem dX5_typedFunction_38 : decode cX5_typedFunction 38 = .ok (.iconst 1, 1) := by decide +kernel
theorem dX5_typedFunction_39 : decode cX5_typedFunction 39 = .ok (.iadd, 1) := by decide +kernel
theorem dX5_typedFunction_40 : decode cX5_typedFunction 40 = .ok (.invokevirtual 77, 3) := by decide +kernel
theorem dX5_typedFunction_43 : decode cX5_typedFunction 43 = .ok (.istore 5, 2) := by decide +kernel
theorem dX5_typedFunction_45 : decode cX5_typedFunction 45 = .ok (.iload 5, 2) := by decide +kernel
theorem dX5_typedFunction_47 : decode cX5_typedFunction 47 = .ok (.ifCond .ge 8, 3) := by decide +kernel
theorem dX5_typedFunction_55 : decode cX5_typedFunction 55 = .ok (.aload_n 0, 1) := by decide +kernel
theorem dX5_typedFunction_56 : decode cX5_typedFunction 56 = .ok (.getfield 12, 3) := by decide +kernel
theorem dX5_typedFunction_59 : decode cX5_typedFunction 59 = .ok (.iload 4, 2) := by decide +kernel
theorem dX5_typedFunction_61 : decode cX5_typedFunction 61 = .ok (.iload 5, 2) := by decide +kernel
theorem dX5_typedFunction_63 : decode cX5_typedFunction 63 = .ok (.invokevirtual 147, 3) := by decide +kernel
theorem dX5_typedFunction_66 : decode cX5_typedFunction 66 = .ok (.ireturn, 1) := by decide +kernel
theorem dX5_typedFunction_50 : decode cX5_typedFunction 50 = .ok (.iload 5, 2) := by decide +kernel
theorem dX5_typedFunction_52 : decode cX5_typedFunction 52 = .ok (.goto 14, 3) := by decide +kernel
theorem dX5_typedApply_0 : decode cX5_typedApply 0 = .ok (.aload_n 0, 1) := by decide +kernel
theorem dX5_typedApply_1 : decode cX5_typedApply 1 = .ok (.aload_n 0, 1) := by decide +kernel
theorem dX5_typedApply_2 : decode cX5_typedApply 2 = .ok (.getfield 64, 3) := by decide +kernel
theorem dX5_typedApply_5 : decode cX5_typedApply 5 = .ok (.iload_n 1, 1) := by decide +kernel
theorem dX5_typedApply_6 : decode cX5_typedApply 6 = .ok (.iconst 0, 1) := by decide +kernel
theorem dX5_typedApply_7 : decode cX5_typedApply 7 = .ok (.invokevirtual 144, 3) := by decide +kernel
theorem dX5_typedApply_10 : decode cX5_typedApply 10 = .ok (.iload_n 2, 1) := by decide +kernel
theorem dX5_typedApply_11 : decode cX5_typedApply 11 = .ok (.iload_n 3, 1) := by decide +kernel
theorem dX5_typedApply_12 : decode cX5_typedApply 12 = .ok (.iconst 1, 1) := by decide +kernel
theorem dX5_typedApply_13 : decode cX5_typedApply 13 = .ok (.iadd, 1) := by decide +kernel
theorem dX5_typedApply_14 : decode cX5_typedApply 14 = .ok (.invokevirtual 77, 3) := by decide +kernel
theorem dX5_typedApply_17 : decode cX5_typedApply 17 = .ok (.istore 4, 2) := by decide +kernel
theorem dX5_typedApply_19 : decode cX5_typedApply 19 = .ok (.iload 4, 2) := by decide +kernel
theorem dX5_typedApply_21 : decode cX5_typedApply 21 = .ok (.ifCond .ge 6, 3) := by decide +kernel
theorem dX5_typedApply_27 : decode cX5_typedApply 27 = .ok (.aload_n 0, 1) := by decide +kernel
theorem dX5_typedApply_28 : decode cX5_typedApply 28 = .ok (.aload_n 0, 1) := by decide +kernel
theorem dX5_typedApply_29 : decode cX5_typedApply 29 = .ok (.getfield 64, 3) := by decide +kernel
theorem dX5_typedApply_32 : decode cX5_typedApply 32 = .ok (.iload_n 1, 1) := by decide +kernel
theorem dX5_typedApply_33 : decode cX5_typedApply 33 = .ok (.iconst 1, 1) := by decide +kernel
theorem dX5_typedApply_34 : decode cX5_typedApply 34 = .ok (.invokevirtual 144, 3) := by decide +kernel
theorem dX5_typedApply_37 : decode cX5_typedApply 37 = .ok (.iload_n 2, 1) := by decide +kernel
theorem dX5_typedApply_38 : decode cX5_typedApply 38 = .ok (.iload_n 3, 1) := by decide +kernel
theorem dX5_typedApply_39 : decode cX5_typedApply 39 = .ok (.iconst 1, 1) := by decide +kernel
theorem dX5_typedApply_40 : decode cX5_typedApply 40 = .ok (.iadd, 1) := by decide +kernel
theorem dX5_typedApply_41 : decode cX5_typedApply 41 = .ok (.invokevirtual 77, 3) := by decide +kernel
theorem dX5_typedApply_44 : decode cX5_typedApply 44 = .ok (.istore 5, 2) := by decide +kernel
theorem dX5_typedApply_46 : decode cX5_typedApply 46 = .ok (.iload 5, 2) := by decide +kernel
theorem dX5_typedApply_48 : decode cX5_typedApply 48 = .ok (.ifCond .ge 6, 3) := by decide +kernel
theorem dX5_typedApply_54 : decode cX5_typedApply 54 = .ok (.aload_n 0, 1) := by decide +kernel
theorem dX5_typedApply_55 : decode cX5_typedApply 55 = .ok (.getfield 12, 3) := by decide +kernel
theorem dX5_typedApply_58 : decode cX5_typedApply 58 = .ok (.iload_n 2, 1) := by decide +kernel
theorem dX5_typedApply_59 : decode cX5_typedApply 59 = .ok (.invokevirtual 137, 3) := by decide +kernel
theorem dX5_typedApply_62 : decode cX5_typedApply 62 = .ok (.istore 6, 2) := by decide +kernel
theorem dX5_typedApply_64 : decode cX5_typedApply 64 = .ok (.iload 6, 2) := by decide +kernel
theorem dX5_typedApply_66 : decode cX5_typedApply 66 = .ok (.ifCond .ge 6, 3) := by decide +kernel
theorem dX5_typedApply_69 : decode cX5_typedApply 69 = .ok (.iload 6, 2) := by decide +kernel
theorem dX5_typedApply_71 : decode cX5_typedApply 71 = .ok (.ireturn, 1) := by decide +kernel
theorem dX5_typedApply_72 : decode cX5_typedApply 72 = .ok (.aload_n 0, 1) := by decide +kernel
theorem dX5_typedApply_73 : decode cX5_typedApply 73 = .ok (.getfield 12, 3) := by decide +kernel
theorem dX5_typedApply_76 : decode cX5_typedApply 76 = .ok (.iload 5, 2) := by decide +kernel
theorem dX5_typedApply_78 : decode cX5_typedApply 78 = .ok (.iload 6, 2) := by decide +kernel
theorem dX5_typedApply_80 : decode cX5_typedApply 80 = .ok (.invokevirtual 147, 3) := by decide +kernel
theorem dX5_typedApply_83 : decode cX5_typedApply 83 = .ok (.istore 7, 2) := by decide +kernel
theorem dX5_typedApply_85 : decode cX5_typedApply 85 = .ok (.iload 7, 2) := by decide +kernel
theorem dX5_typedApply_87 : decode cX5_typedApply 87 = .ok (.ifCond .ge 8, 3) := by decide +kernel
theorem dX5_typedApply_90 : decode cX5_typedApply 90 = .ok (.iload 7, 2) := by decide +kernel
theorem dX5_typedApply_92 : decode cX5_typedApply 92 = .ok (.goto 12, 3) := by decide +kernel
theorem dX5_typedApply_104 : decode cX5_typedApply 104 = .ok (.istore 8, 2) := by decide +kernel
theorem dX5_typedApply_106 : decode cX5_typedApply 106 = .ok (.iload 8, 2) := by decide +kernel
theorem dX5_typedApply_108 : decode cX5_typedApply 108 = .ok (.ifCond .ge 8, 3) := by decide +kernel
theorem dX5_typedApply_111 : decode cX5_typedApply 111 = .ok (.iload 8, 2) := by decide +kernel
theorem dX5_typedApply_113 : decode cX5_typedApply 113 = .ok (.goto 5, 3) := by decide +kernel
theorem dX5_typedApply_118 : decode cX5_typedApply 118 = .ok (.ireturn, 1) := by decide +kernel
theorem dX5_typedApply_95 : decode cX5_typedApply 95 = .ok (.aload_n 0, 1) := by decide +kernel
theorem dX5_typedApply_96 : decode cX5_typedApply 96 = .ok (.iload 4, 2) := by decide +kernel
theorem dX5_typedApply_98 : decode cX5_typedApply 98 = .ok (.iload 7, 2) := by decide +kernel
theorem dX5_typedApply_100 : decode cX5_typedApply 100 = .ok (.iconst 1, 1) := by decide +kernel
theorem dX5_typedApply_101 : decode cX5_typedApply 101 = .ok (.invokevirtual 150, 3) := by decide +kernel
theorem dX5_typedApply_116 : decode cX5_typedApply 116 = .ok (.iload 6, 2) := by decide +kernel
theorem dX5_typedApply_51 : decode cX5_typedApply 51 = .ok (.iload 5, 2) := by decide +kernel
theorem dX5_typedApply_53 : decode cX5_typedApply 53 = .ok (.ireturn, 1) := by decide +kernel
theorem dX5_typedApply_24 : decode cX5_typedApply 24 = .ok (.iload 4, 2) := by decide +kernel
theorem dX5_typedApply_26 : decode cX5_typedApply 26 = .ok (.ireturn, 1) := by decide +kernel
theorem dX5_typedRecord_0 : decode cX5_typedRecord 0 = .ok (.aload_n 0, 1) := by decide +kernel
theorem dX5_typedRecord_1 : decode cX5_typedRecord 1 = .ok (.getfield 12, 3) := by decide +kernel
theorem dX5_typedRecord_4 : decode cX5_typedRecord 4 = .ok (.invokevirtual 153, 3) := by decide +kernel
theorem dX5_typedRecord_7 : decode cX5_typedRecord 7 = .ok (.istore 4, 2) := by decide +kernel
theorem dX5_typedRecord_9 : decode cX5_typedRecord 9 = .ok (.aload_n 0, 1) := by decide +kernel
theorem dX5_typedRecord_10 : decode cX5_typedRecord 10 = .ok (.getfield 64, 3) := by decide +kernel
theorem dX5_typedRecord_13 : decode cX5_typedRecord 13 = .ok (.iload_n 1, 1) := by decide +kernel
theorem dX5_typedRecord_14 : decode cX5_typedRecord 14 = .ok (.invokevirtual 156, 3) := by decide +kernel
theorem dX5_typedRecord_17 : decode cX5_typedRecord 17 = .ok (.istore 5, 2) := by decide +kernel
theorem dX5_typedRecord_19 : decode cX5_typedRecord 19 = .ok (.iconst 0, 1) := by decide +kernel
theorem dX5_typedRecord_20 : decode cX5_typedRecord 20 = .ok (.istore 6, 2) := by decide +kernel
theorem dX5_typedRecord_22 : decode cX5_typedRecord 22 = .ok (.iload 6, 2) := by decide +kernel
theorem dX5_typedRecord_24 : decode cX5_typedRecord 24 = .ok (.iload 5, 2) := by decide +kernel
theorem dX5_typedRecord_26 : decode cX5_typedRecord 26 = .ok (.if_icmp .ge 56, 3) := by decide +kernel
theorem dX5_typedRecord_82 : decode cX5_typedRecord 82 = .ok (.aload_n 0, 1) := by decide +kernel
theorem dX5_typedRecord_83 : decode cX5_typedRecord 83 = .ok (.getfield 12, 3) := by decide +kernel
theorem dX5_typedRecord_86 : decode cX5_typedRecord 86 = .ok (.iload 4, 2) := by decide +kernel
theorem dX5_typedRecord_88 : decode cX5_typedRecord 88 = .ok (.invokevirtual 165, 3) := by decide +kernel
theorem dX5_typedRecord_91 : decode cX5_typedRecord 91 = .ok (.ireturn, 1) := by decide +kernel
theorem dX5_typedRecord_29 : decode cX5_typedRecord 29 = .ok (.aload_n 0, 1) := by decide +kernel
theorem dX5_typedRecord_30 : decode cX5_typedRecord 30 = .ok (.aload_n 0, 1) := by decide +kernel
theorem dX5_typedRecord_31 : decode cX5_typedRecord 31 = .ok (.getfield 64, 3) := by decide +kernel
theorem dX5_typedRecord_34 : decode cX5_typedRecord 34 = .ok (.iload_n 1, 1) := by decide +kernel
theorem dX5_typedRecord_35 : decode cX5_typedRecord 35 = .ok (.iload 6, 2) := by decide +kernel
theorem dX5_typedRecord_37 : decode cX5_typedRecord 37 = .ok (.invokevirtual 144, 3) := by decide +kernel
theorem dX5_typedRecord_40 : decode cX5_typedRecord 40 = .ok (.iload_n 2, 1) := by decide +kernel
theorem dX5_typedRecord_41 : decode cX5_typedRecord 41 = .ok (.iload_n 3, 1) := by decide +kernel
theorem dX5_typedRecord_42 : decode cX5_typedRecord 42 = .ok (.iconst 1, 1) := by decide +kernel
theorem dX5_typedRecord_43 : decode cX5_typedRecord 43 = .ok (.iadd, 1) := by decide +kernel
theorem dX5_typedRecord_44 : decode cX5_typedRecord 44 = .ok (.invokevirtual 77, 3) := by decide +kernel
theorem dX5_typedRecord_47 : decode cX5_typedRecord 47 = .ok (.istore 7, 2) := by decide +kernel
theorem dX5_typedRecord_49 : decode cX5_typedRecord 49 = .ok (.iload 7, 2) := by decide +kernel
theorem dX5_typedRecord_51 : decode cX5_typedRecord 51 = .ok (.ifCond .ge 6, 3) := by decide +kernel
theorem dX5_typedRecord_57 : decode cX5_typedRecord 57 = .ok (.aload_n 0, 1) := by decide +kernel
theorem dX5_typedRecord_58 : decode cX5_typedRecord 58 = .ok (.getfield 12, 3) := by decide +kernel
theorem dX5_typedRecord_61 : decode cX5_typedRecord 61 = .ok (.aload_n 0, 1) := by decide +kernel
theorem dX5_typedRecord_62 : decode cX5_typedRecord 62 = .ok (.getfield 64, 3) := by decide +kernel
theorem dX5_typedRecord_65 : decode cX5_typedRecord 65 = .ok (.iload_n 1, 1) := by decide +kernel
theorem dX5_typedRecord_66 : decode cX5_typedRecord 66 = .ok (.iload 6, 2) := by decide +kernel
theorem dX5_typedRecord_68 : decode cX5_typedRecord 68 = .ok (.invokevirtual 159, 3) := by decide +kernel
theorem dX5_typedRecord_71 : decode cX5_typedRecord 71 = .ok (.iload 7, 2) := by decide +kernel
theorem dX5_typedRecord_73 : decode cX5_typedRecord 73 = .ok (.invokevirtual 162, 3) := by decide +kernel
theorem dX5_typedRecord_76 : decode cX5_typedRecord 76 = .ok (.iinc 6 1, 3) := by decide +kernel
theorem dX5_typedRecord_79 : decode cX5_typedRecord 79 = .ok (.goto (-57), 3) := by decide +kernel
theorem dX5_typedRecord_54 : decode cX5_typedRecord 54 = .ok (.iload 7, 2) := by decide +kernel
theorem dX5_typedRecord_56 : decode cX5_typedRecord 56 = .ok (.ireturn, 1) := by decide +kernel
theorem dX5_typedField_0 : decode cX5_typedField 0 = .ok (.aload_n 0, 1) := by decide +kernel
theorem dX5_typedField_1 : decode cX5_typedField 1 = .ok (.aload_n 0, 1) := by decide +kernel
theorem dX5_typedField_2 : decode cX5_typedField 2 = .ok (.getfield 64, 3) := by decide +kernel
theorem dX5_typedField_5 : decode cX5_typedField 5 = .ok (.iload_n 1, 1) := by decide +kernel
theorem dX5_typedField_6 : decode cX5_typedField 6 = .ok (.iconst 0, 1) := by decide +kernel
theorem dX5_typedField_7 : decode cX5_typedField 7 = .ok (.invokevirtual 144, 3) := by decide +kernel
theorem dX5_typedField_10 : decode cX5_typedField 10 = .ok (.iload_n 2, 1) := by decide +kernel
theorem dX5_typedField_11 : decode cX5_typedField 11 = .ok (.iload_n 3, 1) := by decide +kernel
theorem dX5_typedField_12 : decode cX5_typedField 12 = .ok (.iconst 1, 1) := by decide +kernel
theorem dX5_typedField_13 : decode cX5_typedField 13 = .ok (.iadd, 1) := by decide +kernel
theorem dX5_typedField_14 : decode cX5_typedField 14 = .ok (.invokevirtual 77, 3) := by decide +kernel
theorem dX5_typedField_17 : decode cX5_typedField 17 = .ok (.istore 4, 2) := by decide +kernel
theorem dX5_typedField_19 : decode cX5_typedField 19 = .ok (.iload 4, 2) := by decide +kernel
theorem dX5_typedField_21 : decode cX5_typedField 21 = .ok (.ifCond .ge 6, 3) := by decide +kernel
theorem dX5_typedField_27 : decode cX5_typedField 27 = .ok (.aload_n 0, 1) := by decide +kernel
theorem dX5_typedField_28 : decode cX5_typedField 28 = .ok (.getfield 12, 3) := by decide +kernel
theorem dX5_typedField_31 : decode cX5_typedField 31 = .ok (.iload_n 2, 1) := by decide +kernel
theorem dX5_typedField_32 : decode cX5_typedField 32 = .ok (.invokevirtual 137, 3) := by decide +kernel
theorem dX5_typedField_35 : decode cX5_typedField 35 = .ok (.istore 5, 2) := by decide +kernel
theorem dX5_typedField_37 : decode cX5_typedField 37 = .ok (.iload 5, 2) := by decide +kernel
theorem dX5_typedField_39 : decode cX5_typedField 39 = .ok (.ifCond .ge 6, 3) := by decide +kernel
theorem dX5_typedField_42 : decode cX5_typedField 42 = .ok (.iload 5, 2) := by decide +kernel
theorem dX5_typedField_44 : decode cX5_typedField 44 = .ok (.ireturn, 1) := by decide +kernel
theorem dX5_typedField_45 : decode cX5_typedField 45 = .ok (.aload_n 0, 1) := by decide +kernel
theorem dX5_typedField_46 : decode cX5_typedField 46 = .ok (.getfield 12, 3) := by decide +kernel
theorem dX5_typedField_49 : decode cX5_typedField 49 = .ok (.invokevirtual 153, 3) := by decide +kernel
theorem dX5_typedField_52 : decode cX5_typedField 52 = .ok (.istore 6, 2) := by decide +kernel
theorem dX5_typedField_54 : decode cX5_typedField 54 = .ok (.aload_n 0, 1) := by decide +kernel
theorem dX5_typedField_55 : decode cX5_typedField 55 = .ok (.getfield 12, 3) := by decide +kernel
theorem dX5_typedField_58 : decode cX5_typedField 58 = .ok (.aload_n 0, 1) := by decide +kernel
theorem dX5_typedField_59 : decode cX5_typedField 59 = .ok (.getfield 64, 3) := by decide +kernel
theorem dX5_typedField_62 : decode cX5_typedField 62 = .ok (.iload_n 1, 1) := by decide +kernel
theorem dX5_typedField_63 : decode cX5_typedField 63 = .ok (.invokevirtual 168, 3) := by decide +kernel
theorem dX5_typedField_66 : decode cX5_typedField 66 = .ok (.iload 5, 2) := by decide +kernel
theorem dX5_typedField_68 : decode cX5_typedField 68 = .ok (.invokevirtual 162, 3) := by decide +kernel
theorem dX5_typedField_71 : decode cX5_typedField 71 = .ok (.aload_n 0, 1) := by decide +kernel
theorem dX5_typedField_72 : decode cX5_typedField 72 = .ok (.getfield 12, 3) := by decide +kernel
theorem dX5_typedField_75 : decode cX5_typedField 75 = .ok (.iload 6, 2) := by decide +kernel
theorem dX5_typedField_77 : decode cX5_typedField 77 = .ok (.invokevirtual 165, 3) := by decide +kernel
theorem dX5_typedField_80 : decode cX5_typedField 80 = .ok (.istore 7, 2) := by decide +kernel
theorem dX5_typedField_82 : decode cX5_typedField 82 = .ok (.iload 7, 2) := by decide +kernel
theorem dX5_typedField_84 : decode cX5_typedField 84 = .ok (.ifCond .ge 8, 3) := by decide +kernel
theorem dX5_typedField_87 : decode cX5_typedField 87 = .ok (.iload 7, 2) := by decide +kernel
theorem dX5_typedField_89 : decode cX5_typedField 89 = .ok (.goto 12, 3) := by decide +kernel
theorem dX5_typedField_101 : decode cX5_typedField 101 = .ok (.istore 8, 2) := by decide +kernel
theorem dX5_typedField_103 : decode cX5_typedField 103 = .ok (.iload 8, 2) := by decide +kernel
theorem dX5_typedField_105 : decode cX5_typedField 105 = .ok (.ifCond .ge 8, 3) := by decide +kernel
theorem dX5_typedField_108 : decode cX5_typedField 108 = .ok (.iload 8, 2) := by decide +kernel
theorem dX5_typedField_110 : decode cX5_typedField 110 = .ok (.goto 5, 3) := by decide +kernel
theorem dX5_typedField_115 : decode cX5_typedField 115 = .ok (.ireturn, 1) := by decide +kernel
theorem dX5_typedField_92 : decode cX5_typedField 92 = .ok (.aload_n 0, 1) := by decide +kernel
theorem dX5_typedField_93 : decode cX5_typedField 93 = .ok (.iload 4, 2) := by decide +kernel
theorem dX5_typedField_95 : decode cX5_typedField 95 = .ok (.iload 7, 2) := by decide +kernel
theorem dX5_typedField_97 : decode cX5_typedField 97 = .ok (.iconst 1, 1) := by decide +kernel
theorem dX5_typedField_98 : decode cX5_typedField 98 = .ok (.invokevirtual 150, 3) := by decide +kernel
theorem dX5_typedField_113 : decode cX5_typedField 113 = .ok (.iload 5, 2) := by decide +kernel
theorem dX5_typedField_24 : decode cX5_typedField 24 = .ok (.iload 4, 2) := by decide +kernel
theorem dX5_typedField_26 : decode cX5_typedField 26 = .ok (.ireturn, 1) := by decide +kernel
theorem dX5_typedLet_0 : decode cX5_typedLet 0 = .ok (.aload_n 0, 1) := by decide +kernel
theorem dX5_typedLet_1 : decode cX5_typedLet 1 = .ok (.aload_n 0, 1) := by decide +kernel
theorem dX5_typedLet_2 : decode cX5_typedLet 2 = .ok (.getfield 64, 3) := by decide +kernel
theorem dX5_typedLet_5 : decode cX5_typedLet 5 = .ok (.iload_n 1, 1) := by decide +kernel
theorem dX5_typedLet_6 : decode cX5_typedLet 6 = .ok (.iconst 0, 1) := by decide +kernel
theorem dX5_typedLet_7 : decode cX5_typedLet 7 = .ok (.invokevirtual 144, 3) := by decide +kernel
theorem dX5_typedLet_10 : decode cX5_typedLet 10 = .ok (.iload_n 2, 1) := by decide +kernel
theorem dX5_typedLet_11 : decode cX5_typedLet 11 = .ok (.iconst 1, 1) := by decide +kernel
theorem dX5_typedLet_12 : decode cX5_typedLet 12 = .ok (.iadd, 1) := by decide +kernel
theorem dX5_typedLet_13 : decode cX5_typedLet 13 = .ok (.iload_n 3, 1) := by decide +kernel
theorem dX5_typedLet_14 : decode cX5_typedLet 14 = .ok (.iconst 1, 1) := by decide +kernel
theorem dX5_typedLet_15 : decode cX5_typedLet 15 = .ok (.iadd, 1) := by decide +kernel
theorem dX5_typedLet_16 : decode cX5_typedLet 16 = .ok (.invokevirtual 77, 3) := by decide +kernel
theorem dX5_typedLet_19 : decode cX5_typedLet 19 = .ok (.istore 4, 2) := by decide +kernel
theorem dX5_typedLet_21 : decode cX5_typedLet 21 = .ok (.iload 4, 2) := by decide +kernel
theorem dX5_typedLet_23 : decode cX5_typedLet 23 = .ok (.ifCond .ge 6, 3) := by decide +kernel
theorem dX5_typedLet_29 : decode cX5_typedLet 29 = .ok (.aload_n 0, 1) := by decide +kernel
theorem dX5_typedLet_30 : decode cX5_typedLet 30 = .ok (.iload_n 1, 1) := by decide +kernel
theorem dX5_typedLet_31 : decode cX5_typedLet 31 = .ok (.iload 4, 2) := by decide +kernel
theorem dX5_typedLet_33 : decode cX5_typedLet 33 = .ok (.iload_n 2, 1) := by decide +kernel
theorem dX5_typedLet_34 : decode cX5_typedLet 34 = .ok (.invokevirtual 140, 3) := by decide +kernel
theorem dX5_typedLet_37 : decode cX5_typedLet 37 = .ok (.aload_n 0, 1) := by decide +kernel
theorem dX5_typedLet_38 : decode cX5_typedLet 38 = .ok (.aload_n 0, 1) := by decide +kernel
theorem dX5_typedLet_39 : decode cX5_typedLet 39 = .ok (.getfield 64, 3) := by decide +kernel
theorem dX5_typedLet_42 : decode cX5_typedLet 42 = .ok (.iload_n 1, 1) := by decide +kernel
theorem dX5_typedLet_43 : decode cX5_typedLet 43 = .ok (.iconst 1, 1) := by decide +kernel
theorem dX5_typedLet_44 : decode cX5_typedLet 44 = .ok (.invokevirtual 144, 3) := by decide +kernel
theorem dX5_typedLet_47 : decode cX5_typedLet 47 = .ok (.iload_n 2, 1) := by decide +kernel
theorem dX5_typedLet_48 : decode cX5_typedLet 48 = .ok (.iload_n 3, 1) := by decide +kernel
theorem dX5_typedLet_49 : decode cX5_typedLet 49 = .ok (.iconst 1, 1) := by decide +kernel
theorem dX5_typedLet_50 : decode cX5_typedLet 50 = .ok (.iadd, 1) := by decide +kernel
theorem dX5_typedLet_51 : decode cX5_typedLet 51 = .ok (.invokevirtual 77, 3) := by decide +kernel
theorem dX5_typedLet_54 : decode cX5_typedLet 54 = .ok (.ireturn, 1) := by decide +kernel
theorem dX5_typedLet_26 : decode cX5_typedLet 26 = .ok (.iload 4, 2) := by decide +kernel
theorem dX5_typedLet_28 : decode cX5_typedLet 28 = .ok (.ireturn, 1) := by decide +kernel
theorem dX5_typedRec_0 : decode cX5_typedRec 0 = .ok (.aload_n 0, 1) := by decide +kernel
theorem dX5_typedRec_1 : decode cX5_typedRec 1 = .ok (.getfield 12, 3) := by decide +kernel
theorem dX5_typedRec_4 : decode cX5_typedRec 4 = .ok (.iload_n 2, 1) := by decide +kernel
theorem dX5_typedRec_5 : decode cX5_typedRec 5 = .ok (.iconst 1, 1) := by decide +kernel
theorem dX5_typedRec_6 : decode cX5_typedRec 6 = .ok (.iadd, 1) := by decide +kernel
theorem dX5_typedRec_7 : decode cX5_typedRec 7 = .ok (.invokevirtual 137, 3) := by decide +kernel
theorem dX5_typedRec_10 : decode cX5_typedRec 10 = .ok (.istore 4, 2) := by decide +kernel
theorem dX5_typedRec_12 : decode cX5_typedRec 12 = .ok (.iload 4, 2) := by decide +kernel
theorem dX5_typedRec_14 : decode cX5_typedRec 14 = .ok (.ifCond .ge 6, 3) := by decide +kernel
theorem dX5_typedRec_17 : decode cX5_typedRec 17 = .ok (.iload 4, 2) := by decide +kernel
theorem dX5_typedRec_19 : decode cX5_typedRec 19 = .ok (.ireturn, 1) := by decide +kernel
theorem dX5_typedRec_20 : decode cX5_typedRec 20 = .ok (.aload_n 0, 1) := by decide +kernel
theorem dX5_typedRec_21 : decode cX5_typedRec 21 = .ok (.iload_n 1, 1) := by decide +kernel
theorem dX5_typedRec_22 : decode cX5_typedRec 22 = .ok (.iload 4, 2) := by decide +kernel
theorem dX5_typedRec_24 : decode cX5_typedRec 24 = .ok (.iconst (-1), 1) := by decide +kernel
theorem dX5_typedRec_25 : decode cX5_typedRec 25 = .ok (.invokevirtual 140, 3) := by decide +kernel
theorem dX5_typedRec_28 : decode cX5_typedRec 28 = .ok (.aload_n 0, 1) := by decide +kernel
theorem dX5_typedRec_29 : decode cX5_typedRec 29 = .ok (.aload_n 0, 1) := by decide +kernel
theorem dX5_typedRec_30 : decode cX5_typedRec 30 = .ok (.getfield 64, 3) := by decide +kernel
theorem dX5_typedRec_33 : decode cX5_typedRec 33 = .ok (.iload_n 1, 1) := by decide +kernel
theorem dX5_typedRec_34 : decode cX5_typedRec 34 = .ok (.iconst 0, 1) := by decide +kernel
theorem dX5_typedRec_35 : decode cX5_typedRec 35 = .ok (.invokevirtual 144, 3) := by decide +kernel
theorem dX5_typedRec_38 : decode cX5_typedRec 38 = .ok (.iload_n 2, 1) := by decide +kernel
theorem dX5_typedRec_39 : decode cX5_typedRec 39 = .ok (.iconst 1, 1) := by decide +kernel
theorem dX5_typedRec_40 : decode cX5_typedRec 40 = .ok (.iadd, 1) := by decide +kernel
theorem dX5_typedRec_41 : decode cX5_typedRec 41 = .ok (.iload_n 3, 1) := by decide +kernel
theorem dX5_typedRec_42 : decode cX5_typedRec 42 = .ok (.iconst 1, 1) := by decide +kernel
theorem dX5_typedRec_43 : decode cX5_typedRec 43 = .ok (.iadd, 1) := by decide +kernel
theorem dX5_typedRec_44 : decode cX5_typedRec 44 = .ok (.invokevirtual 77, 3) := by decide +kernel
theorem dX5_typedRec_47 : decode cX5_typedRec 47 = .ok (.istore 5, 2) := by decide +kernel
theorem dX5_typedRec_49 : decode cX5_typedRec 49 = .ok (.iload 5, 2) := by decide +kernel
theorem dX5_typedRec_51 : decode cX5_typedRec 51 = .ok (.ifCond .ge 8, 3) := by decide +kernel
theorem dX5_typedRec_59 : decode cX5_typedRec 59 = .ok (.aload_n 0, 1) := by decide +kernel
theorem dX5_typedRec_60 : decode cX5_typedRec 60 = .ok (.iload 5, 2) := by decide +kernel
theorem dX5_typedRec_62 : decode cX5_typedRec 62 = .ok (.iload 4, 2) := by decide +kernel
theorem dX5_typedRec_64 : decode cX5_typedRec 64 = .ok (.iconst 1, 1) := by decide +kernel
theorem dX5_typedRec_65 : decode cX5_typedRec 65 = .ok (.invokevirtual 150, 3) := by decide +kernel
theorem dX5_typedRec_68 : decode cX5_typedRec 68 = .ok (.istore 6, 2) := by decide +kernel
theorem dX5_typedRec_70 : decode cX5_typedRec 70 = .ok (.iload 6, 2) := by decide +kernel
theorem dX5_typedRec_72 : decode cX5_typedRec 72 = .ok (.ifCond .ge 6, 3) := by decide +kernel
theorem dX5_typedRec_78 : decode cX5_typedRec 78 = .ok (.aload_n 0, 1) := by decide +kernel
theorem dX5_typedRec_79 : decode cX5_typedRec 79 = .ok (.iload_n 1, 1) := by decide +kernel
theorem dX5_typedRec_80 : decode cX5_typedRec 80 = .ok (.iload 4, 2) := by decide +kernel
theorem dX5_typedRec_82 : decode cX5_typedRec 82 = .ok (.iload_n 2, 1) := by decide +kernel
theorem dX5_typedRec_83 : decode cX5_typedRec 83 = .ok (.invokevirtual 140, 3) := by decide +kernel
theorem dX5_typedRec_86 : decode cX5_typedRec 86 = .ok (.aload_n 0, 1) := by decide +kernel
theorem dX5_typedRec_87 : decode cX5_typedRec 87 = .ok (.aload_n 0, 1) := by decide +kernel
theorem dX5_typedRec_88 : decode cX5_typedRec 88 = .ok (.getfield 64, 3) := by decide +kernel
theorem dX5_typedRec_91 : decode cX5_typedRec 91 = .ok (.iload_n 1, 1) := by decide +kernel
theorem dX5_typedRec_92 : decode cX5_typedRec 92 = .ok (.iconst 1, 1) := by decide +kernel
theorem dX5_typedRec_93 : decode cX5_typedRec 93 = .ok (.invokevirtual 144, 3) := by decide +kernel
theorem dX5_typedRec_96 : decode cX5_typedRec 96 = .ok (.iload_n 2, 1) := by decide +kernel
theorem dX5_typedRec_97 : decode cX5_typedRec 97 = .ok (.iload_n 3, 1) := by decide +kernel
theorem dX5_typedRec_98 : decode cX5_typedRec 98 = .ok (.iconst 1, 1) := by decide +kernel
theorem dX5_typedRec_99 : decode cX5_typedRec 99 = .ok (.iadd, 1) := by decide +kernel
theorem dX5_typedRec_100 : decode cX5_typedRec 100 = .ok (.invokevirtual 77, 3) := by decide +kernel
theorem dX5_typedRec_103 : decode cX5_typedRec 103 = .ok (.ireturn, 1) := by decide +kernel
theorem dX5_typedRec_75 : decode cX5_typedRec 75 = .ok (.iload 6, 2) := by decide +kernel
theorem dX5_typedRec_77 : decode cX5_typedRec 77 = .ok (.ireturn, 1) := by decide +kernel
theorem dX5_typedRec_54 : decode cX5_typedRec 54 = .ok (.iload 5, 2) := by decide +kernel
theorem dX5_typedRec_56 : decode cX5_typedRec 56 = .ok (.goto 12, 3) := by decide +kernel
theorem dX5_typedPick_0 : decode cX5_typedPick 0 = .ok (.aload_n 0, 1) := by decide +kernel
theorem dX5_typedPick_1 : decode cX5_typedPick 1 = .ok (.aload_n 0, 1) := by decide +kernel
theorem dX5_typedPick_2 : decode cX5_typedPick 2 = .ok (.getfield 64, 3) := by decide +kernel
theorem dX5_typedPick_5 : decode cX5_typedPick 5 = .ok (.iload_n 1, 1) := by decide +kernel
theorem dX5_typedPick_6 : decode cX5_typedPick 6 = .ok (.iconst 0, 1) := by decide +kernel
theorem dX5_typedPick_7 : decode cX5_typedPick 7 = .ok (.invokevirtual 144, 3) := by decide +kernel
theorem dX5_typedPick_10 : decode cX5_typedPick 10 = .ok (.iload_n 2, 1) := by decide +kernel
theorem dX5_typedPick_11 : decode cX5_typedPick 11 = .ok (.iload_n 3, 1) := by decide +kernel
theorem dX5_typedPick_12 : decode cX5_typedPick 12 = .ok (.iconst 1, 1) := by decide +kernel
theorem dX5_typedPick_13 : decode cX5_typedPick 13 = .ok (.iadd, 1) := by decide +kernel
theorem dX5_typedPick_14 : decode cX5_typedPick 14 = .ok (.invokevirtual 77, 3) := by decide +kernel
theorem dX5_typedPick_17 : decode cX5_typedPick 17 = .ok (.istore 4, 2) := by decide +kernel
theorem dX5_typedPick_19 : decode cX5_typedPick 19 = .ok (.iload 4, 2) := by decide +kernel
theorem dX5_typedPick_21 : decode cX5_typedPick 21 = .ok (.ifCond .ge 8, 3) := by decide +kernel
theorem dX5_typedPick_29 : decode cX5_typedPick 29 = .ok (.aload_n 0, 1) := by decide +kernel
theorem dX5_typedPick_30 : decode cX5_typedPick 30 = .ok (.iload 4, 2) := by decide +kernel
theorem dX5_typedPick_32 : decode cX5_typedPick 32 = .ok (.iconst 1, 1) := by decide +kernel
theorem dX5_typedPick_33 : decode cX5_typedPick 33 = .ok (.iconst 1, 1) := by decide +kernel
theorem dX5_typedPick_34 : decode cX5_typedPick 34 = .ok (.invokevirtual 150, 3) := by decide +kernel
theorem dX5_typedPick_37 : decode cX5_typedPick 37 = .ok (.istore 5, 2) := by decide +kernel
theorem dX5_typedPick_39 : decode cX5_typedPick 39 = .ok (.iload 5, 2) := by decide +kernel
theorem dX5_typedPick_41 : decode cX5_typedPick 41 = .ok (.ifCond .ge 6, 3) := by decide +kernel
theorem dX5_typedPick_47 : decode cX5_typedPick 47 = .ok (.aload_n 0, 1) := by decide +kernel
theorem dX5_typedPick_48 : decode cX5_typedPick 48 = .ok (.getfield 12, 3) := by decide +kernel
theorem dX5_typedPick_51 : decode cX5_typedPick 51 = .ok (.iload_n 2, 1) := by decide +kernel
theorem dX5_typedPick_52 : decode cX5_typedPick 52 = .ok (.invokevirtual 137, 3) := by decide +kernel
theorem dX5_typedPick_55 : decode cX5_typedPick 55 = .ok (.istore 6, 2) := by decide +kernel
theorem dX5_typedPick_57 : decode cX5_typedPick 57 = .ok (.iload 6, 2) := by decide +kernel
theorem dX5_typedPick_59 : decode cX5_typedPick 59 = .ok (.ifCond .ge 6, 3) := by decide +kernel
theorem dX5_typedPick_62 : decode cX5_typedPick 62 = .ok (.iload 6, 2) := by decide +kernel
theorem dX5_typedPick_64 : decode cX5_typedPick 64 = .ok (.ireturn, 1) := by decide +kernel
theorem dX5_typedPick_65 : decode cX5_typedPick 65 = .ok (.iconst 1, 1) := by decide +kernel
theorem dX5_typedPick_66 : decode cX5_typedPick 66 = .ok (.istore 7, 2) := by decide +kernel
theorem dX5_typedPick_68 : decode cX5_typedPick 68 = .ok (.iload 7, 2) := by decide +kernel
theorem dX5_typedPick_70 : decode cX5_typedPick 70 = .ok (.iconst 2, 1) := by decide +kernel
theorem dX5_typedPick_71 : decode cX5_typedPick 71 = .ok (.if_icmp .gt 58, 3) := by decide +kernel
theorem dX5_typedPick_74 : decode cX5_typedPick 74 = .ok (.aload_n 0, 1) := by decide +kernel
theorem dX5_typedPick_75 : decode cX5_typedPick 75 = .ok (.aload_n 0, 1) := by decide +kernel
theorem dX5_typedPick_76 : decode cX5_typedPick 76 = .ok (.getfield 64, 3) := by decide +kernel
theorem dX5_typedPick_79 : decode cX5_typedPick 79 = .ok (.iload_n 1, 1) := by decide +kernel
theorem dX5_typedPick_80 : decode cX5_typedPick 80 = .ok (.iload 7, 2) := by decide +kernel
theorem dX5_typedPick_82 : decode cX5_typedPick 82 = .ok (.invokevirtual 144, 3) := by decide +kernel
theorem dX5_typedPick_85 : decode cX5_typedPick 85 = .ok (.iload_n 2, 1) := by decide +kernel
theorem dX5_typedPick_86 : decode cX5_typedPick 86 = .ok (.iload_n 3, 1) := by decide +kernel
theorem dX5_typedPick_87 : decode cX5_typedPick 87 = .ok (.iconst 1, 1) := by decide +kernel
theorem dX5_typedPick_88 : decode cX5_typedPick 88 = .ok (.iadd, 1) := by decide +kernel
theorem dX5_typedPick_89 : decode cX5_typedPick 89 = .ok (.invokevirtual 77, 3) := by decide +kernel
theorem dX5_typedPick_92 : decode cX5_typedPick 92 = .ok (.istore 8, 2) := by decide +kernel
theorem dX5_typedPick_94 : decode cX5_typedPick 94 = .ok (.iload 8, 2) := by decide +kernel
theorem dX5_typedPick_96 : decode cX5_typedPick 96 = .ok (.ifCond .ge 8, 3) := by decide +kernel
theorem dX5_typedPick_104 : decode cX5_typedPick 104 = .ok (.aload_n 0, 1) := by decide +kernel
theorem dX5_typedPick_105 : decode cX5_typedPick 105 = .ok (.iload 8, 2) := by decide +kernel
theorem dX5_typedPick_107 : decode cX5_typedPick 107 = .ok (.iload 6, 2) := by decide +kernel
theorem dX5_typedPick_109 : decode cX5_typedPick 109 = .ok (.iconst 1, 1) := by decide +kernel
theorem dX5_typedPick_110 : decode cX5_typedPick 110 = .ok (.invokevirtual 150, 3) := by decide +kernel
theorem dX5_typedPick_113 : decode cX5_typedPick 113 = .ok (.istore 5, 2) := by decide +kernel
theorem dX5_typedPick_115 : decode cX5_typedPick 115 = .ok (.iload 5, 2) := by decide +kernel
theorem dX5_typedPick_117 : decode cX5_typedPick 117 = .ok (.ifCond .ge 6, 3) := by decide +kernel
theorem dX5_typedPick_123 : decode cX5_typedPick 123 = .ok (.iinc 7 1, 3) := by decide +kernel
theorem dX5_typedPick_126 : decode cX5_typedPick 126 = .ok (.goto (-58), 3) := by decide +kernel
theorem dX5_typedPick_129 : decode cX5_typedPick 129 = .ok (.iload 6, 2) := by decide +kernel
theorem dX5_typedPick_131 : decode cX5_typedPick 131 = .ok (.ireturn, 1) := by decide +kernel
theorem dX5_typedPick_120 : decode cX5_typedPick 120 = .ok (.iload 5, 2) := by decide +kernel
theorem dX5_typedPick_122 : decode cX5_typedPick 122 = .ok (.ireturn, 1) := by decide +kernel
theorem dX5_typedPick_99 : decode cX5_typedPick 99 = .ok (.iload 8, 2) := by decide +kernel
theorem dX5_typedPick_101 : decode cX5_typedPick 101 = .ok (.goto 12, 3) := by decide +kernel
theorem dX5_typedPick_44 : decode cX5_typedPick 44 = .ok (.iload 5, 2) := by decide +kernel
theorem dX5_typedPick_46 : decode cX5_typedPick 46 = .ok (.ireturn, 1) := by decide +kernel
theorem dX5_typedPick_24 : decode cX5_typedPick 24 = .ok (.iload 4, 2) := by decide +kernel
theorem dX5_typedPick_26 : decode cX5_typedPick 26 = .ok (.goto 11, 3) := by decide +kernel
theorem dX5_typedWholes_0 : decode cX5_typedWholes 0 = .ok (.iconst 0, 1) := by decide +kernel
theorem dX5_typedWholes_1 : decode cX5_typedWholes 1 = .ok (.istore 4, 2) := by decide +kernel
theorem dX5_typedWholes_3 : decode cX5_typedWholes 3 = .ok (.iload 4, 2) := by decide +kernel
theorem dX5_typedWholes_5 : decode cX5_typedWholes 5 = .ok (.iconst 1, 1) := by decide +kernel
theorem dX5_typedWholes_6 : decode cX5_typedWholes 6 = .ok (.if_icmp .gt 57, 3) := by decide +kernel
theorem dX5_typedWholes_9 : decode cX5_typedWholes 9 = .ok (.aload_n 0, 1) := by decide +kernel
theorem dX5_typedWholes_10 : decode cX5_typedWholes 10 = .ok (.aload_n 0, 1) := by decide +kernel
theorem dX5_typedWholes_11 : decode cX5_typedWholes 11 = .ok (.getfield 64, 3) := by decide +kernel
theorem dX5_typedWholes_14 : decode cX5_typedWholes 14 = .ok (.iload_n 1, 1) := by decide +kernel
theorem dX5_typedWholes_15 : decode cX5_typedWholes 15 = .ok (.iload 4, 2) := by decide +kernel
theorem dX5_typedWholes_17 : decode cX5_typedWholes 17 = .ok (.invokevirtual 144, 3) := by decide +kernel
theorem dX5_typedWholes_20 : decode cX5_typedWholes 20 = .ok (.iload_n 2, 1) := by decide +kernel
theorem dX5_typedWholes_21 : decode cX5_typedWholes 21 = .ok (.iload_n 3, 1) := by decide +kernel
theorem dX5_typedWholes_22 : decode cX5_typedWholes 22 = .ok (.iconst 1, 1) := by decide +kernel
theorem dX5_typedWholes_23 : decode cX5_typedWholes 23 = .ok (.iadd, 1) := by decide +kernel
theorem dX5_typedWholes_24 : decode cX5_typedWholes 24 = .ok (.invokevirtual 77, 3) := by decide +kernel
theorem dX5_typedWholes_27 : decode cX5_typedWholes 27 = .ok (.istore 5, 2) := by decide +kernel
theorem dX5_typedWholes_29 : decode cX5_typedWholes 29 = .ok (.iload 5, 2) := by decide +kernel
theorem dX5_typedWholes_31 : decode cX5_typedWholes 31 = .ok (.ifCond .ge 8, 3) := by decide +kernel
theorem dX5_typedWholes_39 : decode cX5_typedWholes 39 = .ok (.aload_n 0, 1) := by decide +kernel
theorem dX5_typedWholes_40 : decode cX5_typedWholes 40 = .ok (.iload 5, 2) := by decide +kernel
theorem dX5_typedWholes_42 : decode cX5_typedWholes 42 = .ok (.iconst 0, 1) := by decide +kernel
theorem dX5_typedWholes_43 : decode cX5_typedWholes 43 = .ok (.iconst 1, 1) := by decide +kernel
theorem dX5_typedWholes_44 : decode cX5_typedWholes 44 = .ok (.invokevirtual 150, 3) := by decide +kernel
theorem dX5_typedWholes_47 : decode cX5_typedWholes 47 = .ok (.istore 6, 2) := by decide +kernel
theorem dX5_typedWholes_49 : decode cX5_typedWholes 49 = .ok (.iload 6, 2) := by decide +kernel
theorem dX5_typedWholes_51 : decode cX5_typedWholes 51 = .ok (.ifCond .ge 6, 3) := by decide +kernel
theorem dX5_typedWholes_57 : decode cX5_typedWholes 57 = .ok (.iinc 4 1, 3) := by decide +kernel
theorem dX5_typedWholes_60 : decode cX5_typedWholes 60 = .ok (.goto (-57), 3) := by decide +kernel
theorem dX5_typedWholes_63 : decode cX5_typedWholes 63 = .ok (.aload_n 0, 1) := by decide +kernel
theorem dX5_typedWholes_64 : decode cX5_typedWholes 64 = .ok (.getfield 64, 3) := by decide +kernel
theorem dX5_typedWholes_67 : decode cX5_typedWholes 67 = .ok (.iload_n 1, 1) := by decide +kernel
theorem dX5_typedWholes_68 : decode cX5_typedWholes 68 = .ok (.invokevirtual 89, 3) := by decide +kernel
theorem dX5_typedWholes_71 : decode cX5_typedWholes 71 = .ok (.bipush 10, 2) := by decide +kernel
theorem dX5_typedWholes_73 : decode cX5_typedWholes 73 = .ok (.if_icmp .ne 7, 3) := by decide +kernel
theorem dX5_typedWholes_80 : decode cX5_typedWholes 80 = .ok (.iconst 1, 1) := by decide +kernel
theorem dX5_typedWholes_81 : decode cX5_typedWholes 81 = .ok (.ireturn, 1) := by decide +kernel
theorem dX5_typedWholes_76 : decode cX5_typedWholes 76 = .ok (.iconst 0, 1) := by decide +kernel
theorem dX5_typedWholes_77 : decode cX5_typedWholes 77 = .ok (.goto 4, 3) := by decide +kernel
theorem dX5_typedWholes_54 : decode cX5_typedWholes 54 = .ok (.iload 6, 2) := by decide +kernel
theorem dX5_typedWholes_56 : decode cX5_typedWholes 56 = .ok (.ireturn, 1) := by decide +kernel
theorem dX5_typedWholes_34 : decode cX5_typedWholes 34 = .ok (.iload 5, 2) := by decide +kernel
theorem dX5_typedWholes_36 : decode cX5_typedWholes 36 = .ok (.goto 11, 3) := by decide +kernel
theorem dX5_typed_0 : decode cX5_typed 0 = .ok (.bipush (-6), 2) := by decide +kernel
theorem dX5_typed_2 : decode cX5_typed 2 = .ok (.istore 4, 2) := by decide +kernel
theorem dX5_typed_4 : decode cX5_typed 4 = .ok (.iload_n 3, 1) := by decide +kernel
theorem dX5_typed_5 : decode cX5_typed 5 = .ok (.bipush 60, 2) := by decide +kernel
theorem dX5_typed_7 : decode cX5_typed 7 = .ok (.if_icmp .gt 181, 3) := by decide +kernel
theorem dX5_typed_188 : decode cX5_typed 188 = .ok (.iload 4, 2) := by decide +kernel
theorem dX5_typed_190 : decode cX5_typed 190 = .ok (.ifCond .ge 17, 3) := by decide +kernel
theorem dX5_typed_193 : decode cX5_typed 193 = .ok (.aload_n 0, 1) := by decide +kernel
theorem dX5_typed_194 : decode cX5_typed 194 = .ok (.getfield 58, 3) := by decide +kernel
theorem dX5_typed_197 : decode cX5_typed 197 = .ok (.bipush (-9), 2) := by decide +kernel
theorem dX5_typed_199 : decode cX5_typed 199 = .ok (.if_icmp .ne 8, 3) := by decide +kernel
theorem dX5_typed_207 : decode cX5_typed 207 = .ok (.iload 4, 2) := by decide +kernel
theorem dX5_typed_209 : decode cX5_typed 209 = .ok (.ireturn, 1) := by decide +kernel
theorem dX5_typed_202 : decode cX5_typed 202 = .ok (.aload_n 0, 1) := by decide +kernel
theorem dX5_typed_203 : decode cX5_typed 203 = .ok (.iload_n 1, 1) := by decide +kernel
theorem dX5_typed_204 : decode cX5_typed 204 = .ok (.putfield 58, 3) := by decide +kernel
theorem dX5_typed_10 : decode cX5_typed 10 = .ok (.aload_n 0, 1) := by decide +kernel
theorem dX5_typed_11 : decode cX5_typed 11 = .ok (.getfield 64, 3) := by decide +kernel
theorem dX5_typed_14 : decode cX5_typed 14 = .ok (.iload_n 1, 1) := by decide +kernel
theorem dX5_typed_15 : decode cX5_typed 15 = .ok (.invokevirtual 89, 3) := by decide +kernel
theorem dX5_typed_18 : decode cX5_typed 18 = .ok (.tableswitch 161 0 9 #[54, 60, 66, 77, 89, 101, 113, 125, 137, 149], 54) := by decide +kernel
theorem dX5_typed_72 : decode cX5_typed 72 = .ok (.iconst 0, 1) := by decide +kernel
theorem dX5_typed_73 : decode cX5_typed 73 = .ok (.istore 4, 2) := by decide +kernel
theorem dX5_typed_75 : decode cX5_typed 75 = .ok (.goto 113, 3) := by decide +kernel
theorem dX5_typed_78 : decode cX5_typed 78 = .ok (.iconst 1, 1) := by decide +kernel
theorem dX5_typed_79 : decode cX5_typed 79 = .ok (.istore 4, 2) := by decide +kernel
theorem dX5_typed_81 : decode cX5_typed 81 = .ok (.goto 107, 3) := by decide +kernel
theorem dX5_typed_84 : decode cX5_typed 84 = .ok (.aload_n 0, 1) := by decide +kernel
theorem dX5_typed_85 : decode cX5_typed 85 = .ok (.iload_n 1, 1) := by decide +kernel
theorem dX5_typed_86 : decode cX5_typed 86 = .ok (.iload_n 2, 1) := by decide +kernel
theorem dX5_typed_87 : decode cX5_typed 87 = .ok (.invokevirtual 93, 3) := by decide +kernel
theorem dX5_typed_90 : decode cX5_typed 90 = .ok (.istore 4, 2) := by decide +kernel
theorem dX5_typed_92 : decode cX5_typed 92 = .ok (.goto 96, 3) := by decide +kernel
theorem dX5_typed_95 : decode cX5_typed 95 = .ok (.aload_n 0, 1) := by decide +kernel
theorem dX5_typed_96 : decode cX5_typed 96 = .ok (.iload_n 1, 1) := by decide +kernel
theorem dX5_typed_97 : decode cX5_typed 97 = .ok (.iload_n 2, 1) := by decide +kernel
theorem dX5_typed_98 : decode cX5_typed 98 = .ok (.iload_n 3, 1) := by decide +kernel
theorem dX5_typed_99 : decode cX5_typed 99 = .ok (.invokevirtual 97, 3) := by decide +kernel
theorem dX5_typed_102 : decode cX5_typed 102 = .ok (.istore 4, 2) := by decide +kernel
theorem dX5_typed_104 : decode cX5_typed 104 = .ok (.goto 84, 3) := by decide +kernel
theorem dX5_typed_107 : decode cX5_typed 107 = .ok (.aload_n 0, 1) := by decide +kernel
theorem dX5_typed_108 : decode cX5_typed 108 = .ok (.iload_n 1, 1) := by decide +kernel
theorem dX5_typed_109 : decode cX5_typed 109 = .ok (.iload_n 2, 1) := by decide +kernel
theorem dX5_typed_110 : decode cX5_typed 110 = .ok (.iload_n 3, 1) := by decide +kernel
theorem dX5_typed_111 : decode cX5_typed 111 = .ok (.invokevirtual 100, 3) := by decide +kernel
theorem dX5_typed_114 : decode cX5_typed 114 = .ok (.istore 4, 2) := by decide +kernel
theorem dX5_typed_116 : decode cX5_typed 116 = .ok (.goto 72, 3) := by decide +kernel
theorem dX5_typed_119 : decode cX5_typed 119 = .ok (.aload_n 0, 1) := by decide +kernel
theorem dX5_typed_120 : decode cX5_typed 120 = .ok (.iload_n 1, 1) := by decide +kernel
theorem dX5_typed_121 : decode cX5_typed 121 = .ok (.iload_n 2, 1) := by decide +kernel
theorem dX5_typed_122 : decode cX5_typed 122 = .ok (.iload_n 3, 1) := by decide +kernel
theorem dX5_typed_123 : decode cX5_typed 123 = .ok (.invokevirtual 103, 3) := by decide +kernel
theorem dX5_typed_126 : decode cX5_typed 126 = .ok (.istore 4, 2) := by decide +kernel
theorem dX5_typed_128 : decode cX5_typed 128 = .ok (.goto 60, 3) := by decide +kernel
theorem dX5_typed_131 : decode cX5_typed 131 = .ok (.aload_n 0, 1) := by decide +kernel
theorem dX5_typed_132 : decode cX5_typed 132 = .ok (.iload_n 1, 1) := by decide +kernel
theorem dX5_typed_133 : decode cX5_typed 133 = .ok (.iload_n 2, 1) := by decide +kernel
theorem dX5_typed_134 : decode cX5_typed 134 = .ok (.iload_n 3, 1) := by decide +kernel
theorem dX5_typed_135 : decode cX5_typed 135 = .ok (.invokevirtual 106, 3) := by decide +kernel
theorem dX5_typed_138 : decode cX5_typed 138 = .ok (.istore 4, 2) := by decide +kernel
theorem dX5_typed_140 : decode cX5_typed 140 = .ok (.goto 48, 3) := by decide +kernel
theorem dX5_typed_143 : decode cX5_typed 143 = .ok (.aload_n 0, 1) := by decide +kernel
theorem dX5_typed_144 : decode cX5_typed 144 = .ok (.iload_n 1, 1) := by decide +kernel
theorem dX5_typed_145 : decode cX5_typed 145 = .ok (.iload_n 2, 1) := by decide +kernel
theorem dX5_typed_146 : decode cX5_typed 146 = .ok (.iload_n 3, 1) := by decide +kernel
theorem dX5_typed_147 : decode cX5_typed 147 = .ok (.invokevirtual 109, 3) := by decide +kernel
theorem dX5_typed_150 : decode cX5_typed 150 = .ok (.istore 4, 2) := by decide +kernel
theorem dX5_typed_152 : decode cX5_typed 152 = .ok (.goto 36, 3) := by decide +kernel
theorem dX5_typed_155 : decode cX5_typed 155 = .ok (.aload_n 0, 1) := by decide +kernel
theorem dX5_typed_156 : decode cX5_typed 156 = .ok (.iload_n 1, 1) := by decide +kernel
theorem dX5_typed_157 : decode cX5_typed 157 = .ok (.iload_n 2, 1) := by decide +kernel
theorem dX5_typed_158 : decode cX5_typed 158 = .ok (.iload_n 3, 1) := by decide +kernel
theorem dX5_typed_159 : decode cX5_typed 159 = .ok (.invokevirtual 112, 3) := by decide +kernel
theorem dX5_typed_162 : decode cX5_typed 162 = .ok (.istore 4, 2) := by decide +kernel
theorem dX5_typed_164 : decode cX5_typed 164 = .ok (.goto 24, 3) := by decide +kernel
theorem dX5_typed_167 : decode cX5_typed 167 = .ok (.aload_n 0, 1) := by decide +kernel
theorem dX5_typed_168 : decode cX5_typed 168 = .ok (.iload_n 1, 1) := by decide +kernel
theorem dX5_typed_169 : decode cX5_typed 169 = .ok (.iload_n 2, 1) := by decide +kernel
theorem dX5_typed_170 : decode cX5_typed 170 = .ok (.iload_n 3, 1) := by decide +kernel
theorem dX5_typed_171 : decode cX5_typed 171 = .ok (.invokevirtual 115, 3) := by decide +kernel
theorem dX5_typed_174 : decode cX5_typed 174 = .ok (.istore 4, 2) := by decide +kernel
theorem dX5_typed_176 : decode cX5_typed 176 = .ok (.goto 12, 3) := by decide +kernel
theorem dX5_typed_179 : decode cX5_typed 179 = .ok (.aload_n 0, 1) := by decide +kernel
theorem dX5_typed_180 : decode cX5_typed 180 = .ok (.iload_n 1, 1) := by decide +kernel
theorem dX5_typed_181 : decode cX5_typed 181 = .ok (.iload_n 2, 1) := by decide +kernel
theorem dX5_typed_182 : decode cX5_typed 182 = .ok (.iload_n 3, 1) := by decide +kernel
theorem dX5_typed_183 : decode cX5_typed 183 = .ok (.invokevirtual 118, 3) := by decide +kernel
theorem dX5_typed_186 : decode cX5_typed 186 = .ok (.istore 4, 2) := by decide +kernel
/-! ===== TYPING: safe ===== -/
def TJ (S : cS) (N : Nat) : Prop := TI S N ∧ ∀ n, n < N → kF S 3 n ≤ 6
theorem TJ.aw {rs is : List Nat} {S u : cS} {N : Nat} (h : TJ S N) (a : AW rs is S u) (hr : ∀ r ∈ [0, 1, 2, 3, 4, 5], r ∉ rs) : TJ u N := ⟨h.1.aw a hr, fun n hn => by
  rw [(a.2.1 3 (lt35 (by decide)) (hr 3 (by decide))).1]
  exact h.2 n hn⟩
theorem TJ.pc {S : cS} {N : Nat} (h : TJ S N) (n : Int32) : t_pc (kF S 3) N n ≤ 6 := by
  have hN := h.1.1
  unfold t_pc
  by_cases e : rget (kF S 3) N n < 0
  · rw [if_pos e]; decide
  · rw [if_neg e]
    have hne : rget (kF S 3) N n ≠ -9 := fun z => e (by rw [z]; decide)
    obtain ⟨j, q1, q2, q3⟩ := rget_in rfl hne (by omega)
    rw [← q3]
    exact h.2 j q1
def TR (u : cS) (T V Y q g T1 V1 X1 Y1 Z1 q1 : Nat) (v : Int32) : Prop := US u T1 V1 X1 Y1 Z1 q1 ∧ (T ≤ T1 ∧ V ≤ V1 ∧ q ≤ q1 ∧ q1 ≤ 1501 ∧ Y ≤ Y1 ∧ Y1 ≤ Y + g) ∧ (¬ v < 0 → q1 ≤ 1500 ∧ Y1 = Y)
def TX (u : cS) (T V Y q g : Nat) (v : Int32) : Prop := ∃ T1 V1 X1 Y1 Z1 q1, TR u T V Y q g T1 V1 X1 Y1 Z1 q1 v
theorem TX.bad {u : cS} {T V Y q g T1 V1 Y1 q1 g1 : Nat} {v : Int32} (h : TX u T1 V1 Y1 q1 g1 v) (a : T ≤ T1 ∧ V ≤ V1 ∧ q ≤ q1 ∧ Y ≤ Y1 ∧ Y1 + g1 ≤ Y + g) (hv : v < 0) : TX u T V Y q g v := by
  obtain ⟨T2, V2, X2, Y2, Z2, q2, b, ⟨c1, c2, c3, c4, c5, c6⟩, d⟩ := h
  exact ⟨T2, V2, X2, Y2, Z2, q2, b, ⟨by omega, by omega, by omega, c4, by omega, by omega⟩, fun z => absurd hv z⟩
theorem TX.tail {u : cS} {T V Y q g T1 V1 q1 g1 : Nat} {v : Int32} (h : TX u T1 V1 Y q1 g1 v) (a : T ≤ T1 ∧ V ≤ V1 ∧ q ≤ q1 ∧ g1 ≤ g) : TX u T V Y q g v := by
  obtain ⟨T2, V2, X2, Y2, Z2, q2, b, ⟨c1, c2, c3, c4, c5, c6⟩, d⟩ := h
  exact ⟨T2, V2, X2, Y2, Z2, q2, b, ⟨by omega, by omega, by omega, c4, c5, by omega⟩, d⟩
theorem US.tx {u : cS} {T V Y q g T1 V1 X1 Z1 q1 : Nat} (h : US u T1 V1 X1 Y Z1 q1) (a : T ≤ T1 ∧ V ≤ V1 ∧ q ≤ q1 ∧ q1 ≤ 1500) (v : Int32) : TX u T V Y q g v := ⟨T1, V1, X1, Y, Z1, q1, h, ⟨a.1, a.2.1, a.2.2.1, Nat.le_succ_of_le a.2.2.2, Nat.le_refl _, Nat.le_add_right _ _⟩, fun _ => ⟨a.2.2.2, rfl⟩⟩
theorem US.txb {u : cS} {T V Y q g T1 V1 X1 Y1 Z1 q1 : Nat} (h : US u T1 V1 X1 Y1 Z1 q1) (a : T ≤ T1 ∧ V ≤ V1 ∧ q ≤ q1 ∧ q1 ≤ 1500) (hy : Y ≤ Y1 ∧ Y1 ≤ Y + g) {v : Int32} (hv : v < 0) : TX u T V Y q g v := ⟨T1, V1, X1, Y1, Z1, q1, h, ⟨a.1, a.2.1, a.2.2.1, Nat.le_succ_of_le a.2.2.2, hy.1, hy.2⟩, fun z => absurd hv z⟩
theorem TX.ok {u : cS} {T V Y q g : Nat} {v : Int32} (h : TX u T V Y q g v) (hv : 0 ≤ v) : ∃ T1 V1 X1 Z1 q1, US u T1 V1 X1 Y Z1 q1 ∧ T ≤ T1 ∧ V ≤ V1 ∧ q ≤ q1 ∧ q1 ≤ 1500 := by
  obtain ⟨T2, V2, X2, Y2, Z2, q2, b, ⟨c1, c2, c3, c4, c5, c6⟩, d⟩ := h
  obtain ⟨e1, e2⟩ := d (Int32.not_lt.mpr hv)
  subst e2
  exact ⟨T2, V2, X2, Z2, q2, b, c1, c2, c3, e1⟩
theorem UX.tx {u : cS} {T V Y q : Nat} {v : Int32} (h : UX u T V Y q v) : TX u T V Y q 366 v := by
  obtain ⟨T2, V2, X2, Y2, Z2, q2, b, c, d, e⟩ := h
  refine ⟨T2, V2, X2, Y2, Z2, q2, b, c, fun z => e ?_⟩
  rcases d with d | d
  · exact d
  · exact absurd d z
theorem CX.tx {S u : cS} {T V X Y Z q : Nat} {v : Int32} (h : CX S u T V Y Z q 0 60 v) (hU : US S T V X Y Z q) (h12 : u.1 12 = S.1 12) (hq : q ≤ 1500) : TX u T V Y q 366 v := by
  obtain ⟨T2, V2, X2, Y2, c, d1, d2, d3⟩ := h
  exact ⟨T2, V2, X2, Y2, Z, q, ⟨c.1, h12.trans hU.2.1, hU.2.2.1, c.2.2.2.2.2⟩, ⟨c.2.1, c.2.2.1, Nat.le_refl _, by omega, d1, by omega⟩, fun z => ⟨hq, d3 z⟩⟩
theorem US.ty {rs is : List Nat} {S u : cS} {T V X Y Z q T2 X2 Y2 : Nat} (h : US S T V X Y Z q) (hT : TY u T2 V V X2 Y2 Z) (a : AW rs is S u) (h1 : 35 ∉ rs) (h2 : 12 ∉ is) : US u T2 V X2 Y2 Z q := ⟨hT, (a.1 12 h2).trans h.2.1, h.2.2.1, fun j hj => by rw [a.bnd h1 h.1.2.1.2.2.1 j hj]; exact h.2.2.2 j hj⟩
theorem US.var {rs is : List Nat} {S u : cS} {T V X Y Z q : Nat} (h : US S T V X Y Z q) (hT : TY u (T + 1) (V + 1) (V + 1) X Y Z) (a : AW rs is S u) (h2 : 12 ∉ is) (ho : ∀ j, j < 2 * V → kK u (35 + j) = kK S (35 + j)) (h3 : kK u (35 + 2 * V) = 0) (h4 : kK u (35 + (2 * V + 1)) = 0) : US u (T + 1) (V + 1) X Y Z q := ⟨hT, (a.1 12 h2).trans h.2.1, h.2.2.1, fun j hj => by
  rcases Nat.lt_or_ge j (2 * V) with e | e
  · have := h.2.2.2 j e
    rw [ho j e]
    omega
  · rcases (by omega : j = 2 * V ∨ j = 2 * V + 1) with e | e
    · rw [e, h3]; omega
    · rw [e, h4]; omega⟩
theorem US.o13 {S : cS} {T V X Y Z q : Nat} {x : Int32} (h : US S T V X Y Z q) : US (cO S 13 x) T V X Y Z q := ⟨h.1, (cO_n (by decide)).trans h.2.1, h.2.2.1, h.2.2.2⟩
theorem TX.o13 {u : cS} {T V Y q g : Nat} {v x : Int32} (h : TX u T V Y q g v) : TX (cO u 13 x) T V Y q g v := by
  obtain ⟨T2, V2, X2, Y2, Z2, q2, b, c⟩ := h
  exact ⟨T2, V2, X2, Y2, Z2, q2, b.o13, c⟩

def cTypedAt (fu : Nat) : Prop := ∀ (l : Launch) (G : cG) (S : cS) (T : Nat) (V : Nat) (X : Nat) (Y : Nat) (Z : Nat) (q : Nat) (N : Nat) (dp : Nat) (lv : Nat) (n : Int32) (hC : CL S) (hU : US S T V X Y Z q) (hq : q ≤ 1500) (h15 : kK S 15 = 0) (hT : TJ S N) (hdp : dp + fu = 61) (hlv : lv ≤ dp) (hY2 : Y + (6 * fu + 372) ≤ 900) (Hs : Heap), Met l yX5_typed (wC yX5_typed cX5_typed 5 (some .int)) (cRm S (2 * fu + 140) (60 * fu + 6500)) (cPc G S Hs [.ref (ga G 4), .int n, .int (nI lv), .int (nI dp)]) (cQi G S Hs (fun v u => AW [6, 7, 8, 9, 16, 14, 10, 11, 12, 13, 17, 18, 23, 24, 25, 26, 35] [8, 9, 10, 12, 13] S u ∧ (TX u T V Y q (6 * fu + 372) v))) (CC - PT S) (12 * (CC - PT S)) (cA G S Hs.size)

set_option maxHeartbeats 4000000 in
set_option maxRecDepth 100000 in
/-- typedName -/
theorem g_typedName (l : Launch) (G : cG) (S : cS) (fu : Nat) (T : Nat) (V : Nat) (X : Nat) (Y : Nat) (Z : Nat) (q : Nat) (N : Nat) (dp : Nat) (lv : Nat) (n : Int32) (hC : CL S) (ih : cTypedAt fu) (hU : US S T V X Y Z q) (hq : q ≤ 1500) (h15 : kK S 15 = 0) (hT : TJ S N) (hdp : dp + (fu + 1) = 61) (hlv : lv ≤ dp) (hY2 : Y + (6 * (fu + 1) + 372) ≤ 900) (Hs : Heap) : Met l yX5_typedName (wC yX5_typedName cX5_typedName 6 (some .int)) (cRm S (2 * fu + 141) (60 * fu + 6530)) (cPc G S Hs [.ref (ga G 4), .int n, .int (nI lv)]) (cQi G S Hs (fun v u => AW [6, 7, 8, 9, 16, 14, 10, 11, 12, 13, 17, 18, 23, 24, 25, 26, 35] [8, 9, 10, 12, 13] S u ∧ (TX u T V Y q (6 * (fu + 1) + 372) v))) (CC - PT S) (12 * (CC - PT S)) (cA G S Hs.size) := by
  refine Met.ofW (cc := cX5_typedName) (maxL := 6) (ret := (some .int)) (by decide) rfl ?_
  intro p e s m args below meth c s₁ B hml hv
  obtain ⟨rfl, hsz, hP, hK, hD0, -⟩ := hv
  have hx := B.exec
  have hb := B.bytes
  have hr := B.returns
  have htu : ∀ w ∈ CU, w.before _ s = true := fun w h => atoms_spec (ws := (wC yX5_typedName cX5_typedName 6 (some .int))) B.pre w (List.mem_cons_of_mem _ h)
  have hown : s.vm.findClass RX5 = some m.cls := findClass_of_methodNamed B.named
  have hlocks := B.notSynchronized
  subst hsz
  have hD : cD (cA G S s.heap.size) G S := cD_self hD0
  have hl := lv_entry ([.ref (ga G 4), .int n, .int (nI lv)]) (n := 6) (Nat.le_of_ble_eq_true rfl)
  rw [lg_entry_eq]
  generalize (lg_sl ([.ref (ga G 4), .int n, .int (nI lv)]) ++ List.replicate (6 - (lg_sl ([.ref (ga G 4), .int n, .int (nI lv)])).length) Slot.unset).toArray = ls at hl ⊢
  have hl : lv_has ls 6 [(0, .ref (ga G 4)), (1, .int n), (2, .int (nI lv))] := hl
  obtain ⟨H, hHe⟩ : ∃ H : Heap, H = s.heap := ⟨_, rfl⟩
  rw [← hHe] at hP
  have hS : va_S (cA G S s.heap.size) s.heap H [] := by rw [hHe]; exact va_S.rf
  have hh : HS S S := HS.rf
  have hpp : PT S ≤ PT S := Nat.le_refl _
  have hB9 := hC.1
  refine W.heq hHe ?_
  refine c_ent (S := S) ?_
  obtain ⟨tT, tV, tB, tX⟩ := id hU.1.2.1
  refine lv_aload_n hx hb dX5_typedName_0 rfl (lv_at hl 0 rfl) ?_
  refine va_get (D := gD G) (ci := 5) (v := .ref (ga G 1)) (C := RX5) (T := TX5) (N := 15) hx hb htu cu_in5 hown hK hP 4 cw_4 rfl 0 (by decide) (htu _ C_60) (fun _ h9 => h9) rfl dX5_typedName_1 ?_
  refine lv_iload_n hx hb dX5_typedName_4 rfl (lv_at hl 1 rfl) ?_
  refine lv_aload_n hx hb dX5_typedName_5 rfl (lv_at hl 0 rfl) ?_
  refine va_get (D := gD G) (ci := 5) (v := .int (S.1 11)) (C := RX5) (T := TX5) (N := 15) hx hb htu cu_in5 hown hK hP 4 cw_4 rfl 11 (by decide) (htu _ C_57) (fun _ h9 => h9) rfl dX5_typedName_6 ?_
  have hC0 := hC
  refine c_ci (c_runV (As := [.int n, .int (S.1 11)]) (rest := []) (q0 := 1) (ci := 3) ⟨hx, hb, hml, hown, htu⟩ (tt_binderOf l G S N n (S.1 11) hC hT.1 H) (cwV 2 htu hU_X5_121 rfl rfl rfl (by decide +kernel) ⟨show 3 + 1 ≤ 2 * fu + 141 by omega, show 8 + (6 + 11) + 66 ≤ 60 * fu + 6530 by omega⟩) hP hK hD hC hpp cw_1 rfl rfl hl.1 rfl (lv_room (Nat.le_of_ble_eq_true rfl)) dX5_typedName_9) hS hD hh hpp (fun r_1 S_2 H locs hw_3 hP hD hS hC hh hs_4 hpp => ?_)
  obtain ⟨-, hu9, hw_3⟩ := hw_3
  have hu9 := hu9.symm
  subst hu9
  refine lv_istore_n (lv' := [(3, .int r_1), (0, .ref (ga G 4)), (1, .int n), (2, .int (nI lv))]) hx hb dX5_typedName_12 rfl hl (by decide) rfl (fun ls hl => ?_)
  refine lv_iload_n hx hb dX5_typedName_13 rfl (lv_at hl 0 rfl) ?_
  refine lv_bipush (v := (-9)) hx hb dX5_typedName_14 (by decide) ?_
  refine lv_icmp_ne (tgt := 22) hx hb dX5_typedName_16 (by decide) (fun c_5 => ?_) (fun c_5 => ?_)
  · skip
    refine lv_aload_n hx hb dX5_typedName_22 rfl (lv_at hl 1 rfl) ?_
    refine va_get (D := gD G) (ci := 5) (v := .ref (kH S 23)) (C := RX5) (T := TX5) (N := 15) hx hb htu cu_in5 hown hK hP 4 cw_4 rfl 4 (by decide) (htu _ C_53) (fun _ h9 => h9) rfl dX5_typedName_23 ?_
    refine lv_iload_n hx hb dX5_typedName_26 rfl (lv_at hl 0 rfl) ?_
    have hC0 := hC
    refine c_ci (c_runV (As := [.int r_1]) (rest := []) (q0 := (2 * 23 + 13)) (ci := 0) ⟨hx, hb, hml, hown, htu⟩ (c_getA l G S 23 (lt35 (by decide)) hC (kH S 23) rfl r_1 H) (cwV 1 htu hU_X5_124 rfl rfl rfl (by decide +kernel) ⟨show 0 + 1 ≤ 2 * fu + 141 by omega, show 8 + (2 + 11) + 0 ≤ 60 * fu + 6530 by omega⟩) hP hK hD hC hpp (c_hd rfl (cw_row (lt35 (by decide)))) rfl rfl hl.1 rfl (lv_room (Nat.le_of_ble_eq_true rfl)) dX5_typedName_27) hS hD hh hpp (fun r_6 S_7 H locs hw_8 hP hD hS hC hh hs_9 hpp => ?_)
    obtain ⟨hu9, hw_8⟩ := hw_8
    have hu9 := hu9.symm
    subst hu9
    refine lv_istore (lv' := [(4, .int r_6), (3, .int r_1), (0, .ref (ga G 4)), (1, .int n), (2, .int (nI lv))]) hx hb dX5_typedName_30 hl (by decide) rfl (fun ls hl => ?_)
    refine lv_aload_n hx hb dX5_typedName_32 rfl (lv_at hl 2 rfl) ?_
    refine va_get (D := gD G) (ci := 5) (v := .ref (kH S 24)) (C := RX5) (T := TX5) (N := 15) hx hb htu cu_in5 hown hK hP 4 cw_4 rfl 5 (by decide) (htu _ C_54) (fun _ h9 => h9) rfl dX5_typedName_33 ?_
    refine lv_iload_n hx hb dX5_typedName_36 rfl (lv_at hl 1 rfl) ?_
    have hC0 := hC
    refine c_ci (c_runV (As := [.int r_1]) (rest := []) (q0 := (2 * 24 + 13)) (ci := 0) ⟨hx, hb, hml, hown, htu⟩ (c_getA l G S 24 (lt35 (by decide)) hC (kH S 24) rfl r_1 H) (cwV 1 htu hU_X5_124 rfl rfl rfl (by decide +kernel) ⟨show 0 + 1 ≤ 2 * fu + 141 by omega, show 8 + (2 + 11) + 0 ≤ 60 * fu + 6530 by omega⟩) hP hK hD hC hpp (c_hd rfl (cw_row (lt35 (by decide)))) rfl rfl hl.1 rfl (lv_room (Nat.le_of_ble_eq_true rfl)) dX5_typedName_37) hS hD hh hpp (fun r_10 S_11 H locs hw_12 hP hD hS hC hh hs_13 hpp => ?_)
    obtain ⟨hu9, hw_12⟩ := hw_12
    have hu9 := hu9.symm
    subst hu9
    refine lv_istore (lv' := [(5, .int r_10), (4, .int r_6), (3, .int r_1), (0, .ref (ga G 4)), (1, .int n), (2, .int (nI lv))]) hx hb dX5_typedName_40 hl (by decide) rfl (fun ls hl => ?_)
    refine lv_iload hx hb dX5_typedName_42 (lv_at hl 0 rfl) ?_
    refine lv_iconst (v := (-1)) hx hb dX5_typedName_44 (by decide) ?_
    refine lv_icmp_ne (tgt := 51) hx hb dX5_typedName_45 (by decide) (fun c_14 => ?_) (fun c_14 => ?_)
    · skip
      refine lv_aload_n hx hb dX5_typedName_51 rfl (lv_at hl 3 rfl) ?_
      refine lv_iload hx hb dX5_typedName_52 (lv_at hl 0 rfl) ?_
      refine lv_iload_n hx hb dX5_typedName_54 rfl (lv_at hl 5 rfl) ?_
      have hC0 := hC
      refine c_cv (c_runV (As := [.int r_10, .int (nI lv)]) (rest := []) (q0 := 4) (ci := 5) ⟨hx, hb, hml, hown, htu⟩ (g_startCopying l G S r_10 (nI lv) hC  H) (cwV 2 htu hU_X5_127 rfl rfl rfl (by decide +kernel) ⟨show 0 + 1 ≤ 2 * fu + 141 by omega, show 8 + (3 + 11) + 0 ≤ 60 * fu + 6530 by omega⟩) hP hK hD hC hpp cw_4 rfl rfl hl.1 rfl (lv_room (Nat.le_of_ble_eq_true rfl)) dX5_typedName_55) hS hD hh hpp (fun S_16 H locs hw_17 hP hD hS hC hh hs_18 hpp => ?_)
      try dsimp only at hw_17
      have aw_19 : AW [] [8, 9, 10] S S_16 := hw_17.1
      have aw_19t : AW [6, 7, 8, 9, 16, 14, 10, 11, 12, 13, 17, 18, 23, 24, 25, 26, 35] [8, 9, 10, 12, 13] S S_16 := AW.rf.tr (aw_19.mono (by decide) (by decide))
      have kk_20 : kK S_16 15 = 0 := (aw_19.2.1 15 (lt35 (by decide)) (by decide)).2.trans h15
      have tj_21 : TJ S_16 N := TJ.aw hT aw_19 (by decide)
      have ty_22 := TY.aw hU.1 aw_19 (by decide)
      refine lv_aload_n hx hb dX5_typedName_58 rfl (lv_at hl 3 rfl) ?_
      refine lv_iload hx hb dX5_typedName_59 (lv_at hl 1 rfl) ?_
      refine lv_iconst (v := 2) hx hb dX5_typedName_61 (by decide) ?_
      refine lv_iconst (v := 1) hx hb dX5_typedName_62 (by decide) ?_
      have nu_23 : US S_16 T V X Y Z q := US.aw hU aw_19 (by decide) (by decide)
      have hC0 := hC
      refine c_ci (c_runV (As := [.int r_6, .int 2, .int 1]) (rest := []) (q0 := 4) (ci := 5) ⟨hx, hb, hml, hown, htu⟩ ((g_copied_all 60) l G S_16 T V X Y Z q 0 1 2 r_6 hC nu_23.1 nu_23.2.2.2 ((by omega)) kk_20 ((Or.inl ⟨rfl, rfl⟩)) ((by decide)) ((show 1 + 60 = 61 by decide)) ((by omega)) ((by rw [hw_17.2.2]; exact Int32.not_lt.mp (nI_n0 (by omega)))) ((fun h => absurd rfl h)) H) (cwV 3 htu hU_X5_131 rfl rfl rfl (by decide +kernel) ⟨show (60 + 4) + 1 ≤ 2 * fu + 141 by omega, show 8 + (12 + 11) + (42 * 60 + 140) ≤ 60 * fu + 6530 by omega⟩) hP hK hD hC hpp cw_4 rfl rfl hl.1 rfl (lv_room (Nat.le_of_ble_eq_true rfl)) dX5_typedName_63) hS hD hh hpp (fun r_24 S_25 H locs hw_26 hP hD hS hC hh hs_27 hpp => ?_)
      try dsimp only at hw_26
      have aw_28 : AW [6, 7, 8, 9, 16, 14, 10, 11, 12, 13, 25, 26, 35] [] S_16 S_25 := hw_26.1
      have aw_28t : AW [6, 7, 8, 9, 16, 14, 10, 11, 12, 13, 17, 18, 23, 24, 25, 26, 35] [8, 9, 10, 12, 13] S S_25 := aw_19t.tr (aw_28.mono (by decide) (by decide))
      have kk_29 : kK S_25 15 = 0 := (aw_28.2.1 15 (lt35 (by decide)) (by decide)).2.trans kk_20
      have ii_30 : S_25.1 9 = r_10 := (aw_28.1 9 (by decide)).trans hw_17.2.1
      have ii_31 : S_25.1 10 = nI lv := (aw_28.1 10 (by decide)).trans hw_17.2.2
      have tj_32 : TJ S_25 N := TJ.aw tj_21 aw_28 (by decide)
      have tx_33 := CX.tx hw_26.2 nu_23 (aw_28.1 12 (by decide)) hq
      exact c_iret (v := r_24) hx hb hr hK hP hD hS hC hh hpp ⟨aw_28t, (TX.tail tx_33 (by omega))⟩ dX5_typedName_66 hlocks
    · skip
      refine lv_iload hx hb dX5_typedName_48 (lv_at hl 1 rfl) ?_
      exact c_iret (v := r_6) hx hb hr hK hP hD hS hC hh hpp ⟨AW.rf, (US.tx hU (by omega) r_6)⟩ dX5_typedName_50 hlocks
  · skip
    refine lv_bipush (v := (-7)) hx hb dX5_typedName_19 (by decide) ?_
    exact c_iret (v := (-7)) hx hb hr hK hP hD hS hC hh hpp ⟨AW.rf, (US.txb hU (by omega) (by omega) (by decide))⟩ dX5_typedName_21 hlocks

set_option maxHeartbeats 4000000 in
set_option maxRecDepth 100000 in
/-- typedFunction -/
theorem g_typedFunction (l : Launch) (G : cG) (S : cS) (fu : Nat) (T : Nat) (V : Nat) (X : Nat) (Y : Nat) (Z : Nat) (q : Nat) (N : Nat) (dp : Nat) (lv : Nat) (n : Int32) (hC : CL S) (ih : cTypedAt fu) (hU : US S T V X Y Z q) (hq : q ≤ 1500) (h15 : kK S 15 = 0) (hT : TJ S N) (hdp : dp + (fu + 1) = 61) (hlv : lv ≤ dp) (hY2 : Y + (6 * (fu + 1) + 372) ≤ 900) (Hs : Heap) : Met l yX5_typedFunction (wC yX5_typedFunction cX5_typedFunction 6 (some .int)) (cRm S (2 * fu + 141) (60 * fu + 6530)) (cPc G S Hs [.ref (ga G 4), .int n, .int (nI lv), .int (nI dp)]) (cQi G S Hs (fun v u => AW [6, 7, 8, 9, 16, 14, 10, 11, 12, 13, 17, 18, 23, 24, 25, 26, 35] [8, 9, 10, 12, 13] S u ∧ (TX u T V Y q (6 * (fu + 1) + 372) v))) (CC - PT S) (12 * (CC - PT S)) (cA G S Hs.size) := by
  refine Met.ofW (cc := cX5_typedFunction) (maxL := 6) (ret := (some .int)) (by decide) rfl ?_
  intro p e s m args below meth c s₁ B hml hv
  obtain ⟨rfl, hsz, hP, hK, hD0, -⟩ := hv
  have hx := B.exec
  have hb := B.bytes
  have hr := B.returns
  have htu : ∀ w ∈ CU, w.before _ s = true := fun w h => atoms_spec (ws := (wC yX5_typedFunction cX5_typedFunction 6 (some .int))) B.pre w (List.mem_cons_of_mem _ h)
  have hown : s.vm.findClass RX5 = some m.cls := findClass_of_methodNamed B.named
  have hlocks := B.notSynchronized
  subst hsz
  have hD : cD (cA G S s.heap.size) G S := cD_self hD0
  have hl := lv_entry ([.ref (ga G 4), .int n, .int (nI lv), .int (nI dp)]) (n := 6) (Nat.le_of_ble_eq_true rfl)
  rw [lg_entry_eq]
  generalize (lg_sl ([.ref (ga G 4), .int n, .int (nI lv), .int (nI dp)]) ++ List.replicate (6 - (lg_sl ([.ref (ga G 4), .int n, .int (nI lv), .int (nI dp)])).length) Slot.unset).toArray = ls at hl ⊢
  have hl : lv_has ls 6 [(0, .ref (ga G 4)), (1, .int n), (2, .int (nI lv)), (3, .int (nI dp))] := hl
  obtain ⟨H, hHe⟩ : ∃ H : Heap, H = s.heap := ⟨_, rfl⟩
  rw [← hHe] at hP
  have hS : va_S (cA G S s.heap.size) s.heap H [] := by rw [hHe]; exact va_S.rf
  have hh : HS S S := HS.rf
  have hpp : PT S ≤ PT S := Nat.le_refl _
  have hB9 := hC.1
  refine W.heq hHe ?_
  refine c_ent (S := S) ?_
  obtain ⟨tT, tV, tB, tX⟩ := id hU.1.2.1
  refine lv_aload_n hx hb dX5_typedFunction_0 rfl (lv_at hl 0 rfl) ?_
  refine va_get (D := gD G) (ci := 5) (v := .ref (ga G 2)) (C := RX5) (T := TX5) (N := 15) hx hb htu cu_in5 hown hK hP 4 cw_4 rfl 1 (by decide) (htu _ C_45) (fun _ h9 => h9) rfl dX5_typedFunction_1 ?_
  refine lv_iload_n hx hb dX5_typedFunction_4 rfl (lv_at hl 2 rfl) ?_
  have hC0 := hC
  refine c_ci (c_runV (As := [.int (nI lv)]) (rest := []) (q0 := 2) (ci := 4) ⟨hx, hb, hml, hown, htu⟩ (y_addVariable l G S T V V X Y Z (nI lv) hC hU.1 rfl ((Int32.not_lt.mp (nI_n0 (by omega)))) H) (cwV 1 htu hU_X5_137 rfl rfl rfl (by decide +kernel) ⟨show 4 + 1 ≤ 2 * fu + 141 by omega, show 8 + (4 + 11) + 128 ≤ 60 * fu + 6530 by omega⟩) hP hK hD hC hpp cw_2 rfl rfl hl.1 rfl (lv_room (Nat.le_of_ble_eq_true rfl)) dX5_typedFunction_5) hS hD hh hpp (fun r_1 S_2 H locs hw_3 hP hD hS hC hh hs_4 hpp => ?_)
  try dsimp only at hw_3
  have aw_5 : AW [6, 7, 8, 9, 16, 14, 35] [] S S_2 := hw_3.1
  have aw_5t : AW [6, 7, 8, 9, 16, 14, 10, 11, 12, 13, 17, 18, 23, 24, 25, 26, 35] [8, 9, 10, 12, 13] S S_2 := AW.rf.tr (aw_5.mono (by decide) (by decide))
  have kk_6 : kK S_2 15 = 0 := (aw_5.2.1 15 (lt35 (by decide)) (by decide)).2.trans h15
  have tj_7 : TJ S_2 N := TJ.aw hT aw_5 (by decide)
  rcases hw_3.2 with ⟨ty_8v, ty_8s⟩ | ⟨ty_8v, ty_8t, ty_8, ty_8o, ty_84, ty_88, ty_8r⟩
  · skip
    subst ty_8v
    refine lv_istore (lv' := [(4, .int ((-6))), (0, .ref (ga G 4)), (1, .int n), (2, .int (nI lv)), (3, .int (nI dp))]) hx hb dX5_typedFunction_8 hl (by decide) rfl (fun ls hl => ?_)
    refine lv_iload hx hb dX5_typedFunction_10 (lv_at hl 0 rfl) ?_
    refine lv_if_ge (tgt := 18) hx hb dX5_typedFunction_12 (by decide) (fun c_9 => absurd c_9 (by decide)) (fun c_9 => ?_)
    refine lv_iload hx hb dX5_typedFunction_15 (lv_at hl 0 rfl) ?_
    exact c_iret (v := (-6)) hx hb hr hK hP hD hS hC hh hpp ⟨aw_5t, (by rw [ty_8s]; exact US.txb hU (by omega) (by omega) (by decide))⟩ dX5_typedFunction_17 hlocks
  · skip
    subst ty_8v
    obtain ⟨ty_8q, ty_8w, ty_8x, ty_8y⟩ := ty_8r
    have us_10 := US.var hU ty_8 aw_5 (by decide) ty_8w ty_8x ty_8y
    obtain ⟨us_10t, us_10v, us_10b, us_10x⟩ := id us_10.1.2.1
    refine lv_istore (lv' := [(4, .int (nI T)), (0, .ref (ga G 4)), (1, .int n), (2, .int (nI lv)), (3, .int (nI dp))]) hx hb dX5_typedFunction_8 hl (by decide) rfl (fun ls hl => ?_)
    refine lv_iload hx hb dX5_typedFunction_10 (lv_at hl 0 rfl) ?_
    refine lv_if_ge (tgt := 18) hx hb dX5_typedFunction_12 (by decide) (fun c_11 => ?_) (fun c_11 => absurd (Int32.not_lt.mp (nI_n0 (by omega))) c_11)
    refine lv_aload_n hx hb dX5_typedFunction_18 rfl (lv_at hl 1 rfl) ?_
    refine lv_iload_n hx hb dX5_typedFunction_19 rfl (lv_at hl 2 rfl) ?_
    refine lv_iload hx hb dX5_typedFunction_20 (lv_at hl 0 rfl) ?_
    refine lv_iconst (v := (-1)) hx hb dX5_typedFunction_22 (by decide) ?_
    have hC0 := hC
    refine c_cv (c_runV (As := [.int n, .int (nI T), .int ((-1))]) (rest := []) (q0 := 4) (ci := 5) ⟨hx, hb, hml, hown, htu⟩ (g_gives l G S_2 n (nI T) ((-1)) hC  H) (cwV 3 htu hU_X5_140 rfl rfl rfl (by decide +kernel) ⟨show 1 + 1 ≤ 2 * fu + 141 by omega, show 8 + (4 + 11) + 22 ≤ 60 * fu + 6530 by omega⟩) hP hK hD hC hpp cw_4 rfl rfl hl.1 rfl (lv_room (Nat.le_of_ble_eq_true rfl)) dX5_typedFunction_23) hS hD hh hpp (fun S_13 H locs hw_14 hP hD hS hC hh hs_15 hpp => ?_)
    try dsimp only at hw_14
    have aw_16 : AW [23, 24] [] S_2 S_13 := hw_14.1
    have aw_16t : AW [6, 7, 8, 9, 16, 14, 10, 11, 12, 13, 17, 18, 23, 24, 25, 26, 35] [8, 9, 10, 12, 13] S S_13 := aw_5t.tr (aw_16.mono (by decide) (by decide))
    have kk_17 : kK S_13 15 = 0 := (aw_16.2.1 15 (lt35 (by decide)) (by decide)).2.trans kk_6
    have tj_18 : TJ S_13 N := TJ.aw tj_7 aw_16 (by decide)
    have us_19 := US.aw us_10 aw_16 (by decide) (by decide)
    refine lv_aload_n hx hb dX5_typedFunction_26 rfl (lv_at hl 1 rfl) ?_
    refine lv_aload_n hx hb dX5_typedFunction_27 rfl (lv_at hl 1 rfl) ?_
    refine va_get (D := gD G) (ci := 5) (v := .ref (ga G 1)) (C := RX5) (T := TX5) (N := 15) hx hb htu cu_in5 hown hK hP 4 cw_4 rfl 0 (by decide) (htu _ C_60) (fun _ h9 => h9) rfl dX5_typedFunction_28 ?_
    refine lv_iload_n hx hb dX5_typedFunction_31 rfl (lv_at hl 2 rfl) ?_
    refine lv_iconst (v := 0) hx hb dX5_typedFunction_32 (by decide) ?_
    have hC0 := hC
    refine c_ci (c_runV (As := [.int n, .int 0]) (rest := [.ref (ga G 4)]) (q0 := 1) (ci := 3) ⟨hx, hb, hml, hown, htu⟩ (tt_partOf l G S_13 N n 0 hC tj_18.1 H) (cwV 2 htu hU_X5_144 rfl rfl rfl (by decide +kernel) ⟨show 1 + 1 ≤ 2 * fu + 141 by omega, show 8 + (3 + 11) + 21 ≤ 60 * fu + 6530 by omega⟩) hP hK hD hC hpp cw_1 rfl rfl hl.1 rfl (lv_room (Nat.le_of_ble_eq_true rfl)) dX5_typedFunction_33) hS hD hh hpp (fun r_20 S_21 H locs hw_22 hP hD hS hC hh hs_23 hpp => ?_)
    obtain ⟨-, hu9, hw_22⟩ := hw_22
    have hu9 := hu9.symm
    subst hu9
    refine lv_iload_n hx hb dX5_typedFunction_36 rfl (lv_at hl 3 rfl) ?_
    refine lv_iload_n hx hb dX5_typedFunction_37 rfl (lv_at hl 4 rfl) ?_
    refine lv_iconst (v := 1) hx hb dX5_typedFunction_38 (by decide) ?_
    refine lv_iadd hx hb dX5_typedFunction_39 ?_
    refine m_top (y := nI (dp + 1)) (nI_add dp 1) ?_
    have hC0 := hC
    refine c_ci (c_runV (As := [.int r_20, .int (nI lv), .int (nI (dp + 1))]) (rest := []) (q0 := 4) (ci := 5) ⟨hx, hb, hml, hown, htu⟩ (ih l G S_13 ((T + 1)) ((V + 1)) X Y Z q N (dp + 1) lv r_20 hC us_19 ((by omega)) kk_17 tj_18 ((by omega)) ((by omega)) ((by omega)) H) (cwV 3 htu hU_X5_77 rfl rfl rfl (by decide +kernel) ⟨show (2 * fu + 140) + 1 ≤ 2 * fu + 141 by omega, show 8 + (5 + 11) + (60 * fu + 6500) ≤ 60 * fu + 6530 by omega⟩) hP hK hD hC hpp cw_4 rfl rfl hl.1 rfl (lv_room (Nat.le_of_ble_eq_true rfl)) dX5_typedFunction_40) hS hD hh hpp (fun r_24 S_25 H locs hw_26 hP hD hS hC hh hs_27 hpp => ?_)
    try dsimp only at hw_26
    have aw_28 : AW [6, 7, 8, 9, 16, 14, 10, 11, 12, 13, 17, 18, 23, 24, 25, 26, 35] [8, 9, 10, 12, 13] S_13 S_25 := hw_26.1
    have aw_28t : AW [6, 7, 8, 9, 16, 14, 10, 11, 12, 13, 17, 18, 23, 24, 25, 26, 35] [8, 9, 10, 12, 13] S S_25 := aw_16t.tr (aw_28.mono (by decide) (by decide))
    have kk_29 : kK S_25 15 = 0 := (aw_28.2.1 15 (lt35 (by decide)) (by decide)).2.trans kk_17
    have tj_30 : TJ S_25 N := TJ.aw tj_18 aw_28 (by decide)
    have tx_31 := hw_26.2
    refine lv_istore (lv' := [(5, .int r_24), (4, .int (nI T)), (0, .ref (ga G 4)), (1, .int n), (2, .int (nI lv)), (3, .int (nI dp))]) hx hb dX5_typedFunction_43 hl (by decide) rfl (fun ls hl => ?_)
    refine lv_iload hx hb dX5_typedFunction_45 (lv_at hl 0 rfl) ?_
    refine lv_if_ge (tgt := 55) hx hb dX5_typedFunction_47 (by decide) (fun c_32 => ?_) (fun c_32 => ?_)
    · skip
      obtain ⟨tx_31T, tx_31V, tx_31X, tx_31Z, tx_31q, tx_31u, tx_311, tx_312, tx_313, tx_314⟩ := tx_31.ok c_32
      obtain ⟨tx_31t, tx_31v, tx_31b, tx_31x⟩ := id tx_31u.1.2.1
      refine lv_aload_n hx hb dX5_typedFunction_55 rfl (lv_at hl 2 rfl) ?_
      refine va_get (D := gD G) (ci := 5) (v := .ref (ga G 2)) (C := RX5) (T := TX5) (N := 15) hx hb htu cu_in5 hown hK hP 4 cw_4 rfl 1 (by decide) (htu _ C_45) (fun _ h9 => h9) rfl dX5_typedFunction_56 ?_
      refine lv_iload hx hb dX5_typedFunction_59 (lv_at hl 1 rfl) ?_
      refine lv_iload hx hb dX5_typedFunction_61 (lv_at hl 0 rfl) ?_
      have hC0 := hC
      refine c_ci (c_runV (As := [.int (nI T), .int r_24]) (rest := []) (q0 := 2) (ci := 4) ⟨hx, hb, hml, hown, htu⟩ (y_addFunction l G S_25 tx_31T tx_31V tx_31V tx_31X Y tx_31Z (nI T) r_24 hC tx_31u.1 H) (cwV 2 htu hU_X5_147 rfl rfl rfl (by decide +kernel) ⟨show 4 + 1 ≤ 2 * fu + 141 by omega, show 8 + (3 + 11) + 128 ≤ 60 * fu + 6530 by omega⟩) hP hK hD hC hpp cw_2 rfl rfl hl.1 rfl (lv_room (Nat.le_of_ble_eq_true rfl)) dX5_typedFunction_63) hS hD hh hpp (fun r_33 S_34 H locs hw_35 hP hD hS hC hh hs_36 hpp => ?_)
      try dsimp only at hw_35
      have aw_37 : AW [6, 7, 8, 9, 16] [] S_25 S_34 := hw_35.1
      have aw_37t : AW [6, 7, 8, 9, 16, 14, 10, 11, 12, 13, 17, 18, 23, 24, 25, 26, 35] [8, 9, 10, 12, 13] S S_34 := aw_28t.tr (aw_37.mono (by decide) (by decide))
      have kk_38 : kK S_34 15 = 0 := (aw_37.2.1 15 (lt35 (by decide)) (by decide)).2.trans kk_29
      have tj_39 : TJ S_34 N := TJ.aw tj_30 aw_37 (by decide)
      rcases hw_35.2 with ⟨ty_40v, ty_40s⟩ | ⟨ty_40v, ty_40t, ty_40, ty_40o⟩
      · skip
        subst ty_40v
        exact c_iret (v := (-6)) hx hb hr hK hP hD hS hC hh hpp ⟨aw_37t, (by rw [ty_40s]; exact US.txb tx_31u (by omega) (by omega) (by decide))⟩ dX5_typedFunction_66 hlocks
      · skip
        subst ty_40v
        have us_41 := US.ty tx_31u ty_40 aw_37 (by decide) (by decide)
        obtain ⟨us_41t, us_41v, us_41b, us_41x⟩ := id us_41.1.2.1
        exact c_iret (v := nI tx_31T) hx hb hr hK hP hD hS hC hh hpp ⟨aw_37t, (US.tx us_41 (by omega) (nI tx_31T))⟩ dX5_typedFunction_66 hlocks
    · skip
      refine lv_iload hx hb dX5_typedFunction_50 (lv_at hl 0 rfl) ?_
      refine lv_goto (tgt := 66) hx hb dX5_typedFunction_52 (by decide) ?_
      exact c_iret (v := r_24) hx hb hr hK hP hD hS hC hh hpp ⟨aw_28t, (TX.bad tx_31 (by omega) (Int32.not_le.mp c_32))⟩ dX5_typedFunction_66 hlocks

set_option maxHeartbeats 4000000 in
set_option maxRecDepth 100000 in
/-- typedApply -/
theorem g_typedApply (l : Launch) (G : cG) (S : cS) (fu : Nat) (T : Nat) (V : Nat) (X : Nat) (Y : Nat) (Z : Nat) (q : Nat) (N : Nat) (dp : Nat) (lv : Nat) (n : Int32) (hC : CL S) (ih : cTypedAt fu) (hU : US S T V X Y Z q) (hq : q ≤ 1500) (h15 : kK S 15 = 0) (hT : TJ S N) (hdp : dp + (fu + 1) = 61) (hlv : lv ≤ dp) (hY2 : Y + (6 * (fu + 1) + 372) ≤ 900) (Hs : Heap) : Met l yX5_typedApply (wC yX5_typedApply cX5_typedApply 9 (some .int)) (cRm S (2 * fu + 141) (60 * fu + 6530)) (cPc G S Hs [.ref (ga G 4), .int n, .int (nI lv), .int (nI dp)]) (cQi G S Hs (fun v u => AW [6, 7, 8, 9, 16, 14, 10, 11, 12, 13, 17, 18, 23, 24, 25, 26, 35] [8, 9, 10, 12, 13] S u ∧ (TX u T V Y q (6 * (fu + 1) + 372) v))) (CC - PT S) (12 * (CC - PT S)) (cA G S Hs.size) := by
  refine Met.ofW (cc := cX5_typedApply) (maxL := 9) (ret := (some .int)) (by decide) rfl ?_
  intro p e s m args below meth c s₁ B hml hv
  obtain ⟨rfl, hsz, hP, hK, hD0, -⟩ := hv
  have hx := B.exec
  have hb := B.bytes
  have hr := B.returns
  have htu : ∀ w ∈ CU, w.before _ s = true := fun w h => atoms_spec (ws := (wC yX5_typedApply cX5_typedApply 9 (some .int))) B.pre w (List.mem_cons_of_mem _ h)
  have hown : s.vm.findClass RX5 = some m.cls := findClass_of_methodNamed B.named
  have hlocks := B.notSynchronized
  subst hsz
  have hD : cD (cA G S s.heap.size) G S := cD_self hD0
  have hl := lv_entry ([.ref (ga G 4), .int n, .int (nI lv), .int (nI dp)]) (n := 9) (Nat.le_of_ble_eq_true rfl)
  rw [lg_entry_eq]
  generalize (lg_sl ([.ref (ga G 4), .int n, .int (nI lv), .int (nI dp)]) ++ List.replicate (9 - (lg_sl ([.ref (ga G 4), .int n, .int (nI lv), .int (nI dp)])).length) Slot.unset).toArray = ls at hl ⊢
  have hl : lv_has ls 9 [(0, .ref (ga G 4)), (1, .int n), (2, .int (nI lv)), (3, .int (nI dp))] := hl
  obtain ⟨H, hHe⟩ : ∃ H : Heap, H = s.heap := ⟨_, rfl⟩
  rw [← hHe] at hP
  have hS : va_S (cA G S s.heap.size) s.heap H [] := by rw [hHe]; exact va_S.rf
  have hh : HS S S := HS.rf
  have hpp : PT S ≤ PT S := Nat.le_refl _
  have hB9 := hC.1
  refine W.heq hHe ?_
  refine c_ent (S := S) ?_
  obtain ⟨tT, tV, tB, tX⟩ := id hU.1.2.1
  refine lv_aload_n hx hb dX5_typedApply_0 rfl (lv_at hl 0 rfl) ?_
  refine lv_aload_n hx hb dX5_typedApply_1 rfl (lv_at hl 0 rfl) ?_
  refine va_get (D := gD G) (ci := 5) (v := .ref (ga G 1)) (C := RX5) (T := TX5) (N := 15) hx hb htu cu_in5 hown hK hP 4 cw_4 rfl 0 (by decide) (htu _ C_60) (fun _ h9 => h9) rfl dX5_typedApply_2 ?_
  refine lv_iload_n hx hb dX5_typedApply_5 rfl (lv_at hl 1 rfl) ?_
  refine lv_iconst (v := 0) hx hb dX5_typedApply_6 (by decide) ?_
  have hC0 := hC
  refine c_ci (c_runV (As := [.int n, .int 0]) (rest := [.ref (ga G 4)]) (q0 := 1) (ci := 3) ⟨hx, hb, hml, hown, htu⟩ (tt_partOf l G S N n 0 hC hT.1 H) (cwV 2 htu hU_X5_144 rfl rfl rfl (by decide +kernel) ⟨show 1 + 1 ≤ 2 * fu + 141 by omega, show 8 + (3 + 11) + 21 ≤ 60 * fu + 6530 by omega⟩) hP hK hD hC hpp cw_1 rfl rfl hl.1 rfl (lv_room (Nat.le_of_ble_eq_true rfl)) dX5_typedApply_7) hS hD hh hpp (fun r_1 S_2 H locs hw_3 hP hD hS hC hh hs_4 hpp => ?_)
  obtain ⟨-, hu9, hw_3⟩ := hw_3
  have hu9 := hu9.symm
  subst hu9
  refine lv_iload_n hx hb dX5_typedApply_10 rfl (lv_at hl 2 rfl) ?_
  refine lv_iload_n hx hb dX5_typedApply_11 rfl (lv_at hl 3 rfl) ?_
  refine lv_iconst (v := 1) hx hb dX5_typedApply_12 (by decide) ?_
  refine lv_iadd hx hb dX5_typedApply_13 ?_
  refine m_top (y := nI (dp + 1)) (nI_add dp 1) ?_
  have hC0 := hC
  refine c_ci (c_runV (As := [.int r_1, .int (nI lv), .int (nI (dp + 1))]) (rest := []) (q0 := 4) (ci := 5) ⟨hx, hb, hml, hown, htu⟩ (ih l G S T V X Y Z q N (dp + 1) lv r_1 hC hU ((by omega)) h15 hT ((by omega)) ((by omega)) ((by omega)) H) (cwV 3 htu hU_X5_77 rfl rfl rfl (by decide +kernel) ⟨show (2 * fu + 140) + 1 ≤ 2 * fu + 141 by omega, show 8 + (5 + 11) + (60 * fu + 6500) ≤ 60 * fu + 6530 by omega⟩) hP hK hD hC hpp cw_4 rfl rfl hl.1 rfl (lv_room (Nat.le_of_ble_eq_true rfl)) dX5_typedApply_14) hS hD hh hpp (fun r_5 S_6 H locs hw_7 hP hD hS hC hh hs_8 hpp => ?_)
  try dsimp only at hw_7
  have aw_9 : AW [6, 7, 8, 9, 16, 14, 10, 11, 12, 13, 17, 18, 23, 24, 25, 26, 35] [8, 9, 10, 12, 13] S S_6 := hw_7.1
  have aw_9t : AW [6, 7, 8, 9, 16, 14, 10, 11, 12, 13, 17, 18, 23, 24, 25, 26, 35] [8, 9, 10, 12, 13] S S_6 := AW.rf.tr (aw_9.mono (by decide) (by decide))
  have kk_10 : kK S_6 15 = 0 := (aw_9.2.1 15 (lt35 (by decide)) (by decide)).2.trans h15
  have tj_11 : TJ S_6 N := TJ.aw hT aw_9 (by decide)
  have tx_12 := hw_7.2
  refine lv_istore (lv' := [(4, .int r_5), (0, .ref (ga G 4)), (1, .int n), (2, .int (nI lv)), (3, .int (nI dp))]) hx hb dX5_typedApply_17 hl (by decide) rfl (fun ls hl => ?_)
  refine lv_iload hx hb dX5_typedApply_19 (lv_at hl 0 rfl) ?_
  refine lv_if_ge (tgt := 27) hx hb dX5_typedApply_21 (by decide) (fun c_13 => ?_) (fun c_13 => ?_)
  · skip
    obtain ⟨tx_12T, tx_12V, tx_12X, tx_12Z, tx_12q, tx_12u, tx_121, tx_122, tx_123, tx_124⟩ := tx_12.ok c_13
    obtain ⟨tx_12t, tx_12v, tx_12b, tx_12x⟩ := id tx_12u.1.2.1
    refine lv_aload_n hx hb dX5_typedApply_27 rfl (lv_at hl 1 rfl) ?_
    refine lv_aload_n hx hb dX5_typedApply_28 rfl (lv_at hl 1 rfl) ?_
    refine va_get (D := gD G) (ci := 5) (v := .ref (ga G 1)) (C := RX5) (T := TX5) (N := 15) hx hb htu cu_in5 hown hK hP 4 cw_4 rfl 0 (by decide) (htu _ C_60) (fun _ h9 => h9) rfl dX5_typedApply_29 ?_
    refine lv_iload_n hx hb dX5_typedApply_32 rfl (lv_at hl 2 rfl) ?_
    refine lv_iconst (v := 1) hx hb dX5_typedApply_33 (by decide) ?_
    have hC0 := hC
    refine c_ci (c_runV (As := [.int n, .int 1]) (rest := [.ref (ga G 4)]) (q0 := 1) (ci := 3) ⟨hx, hb, hml, hown, htu⟩ (tt_partOf l G S_6 N n 1 hC tj_11.1 H) (cwV 2 htu hU_X5_144 rfl rfl rfl (by decide +kernel) ⟨show 1 + 1 ≤ 2 * fu + 141 by omega, show 8 + (3 + 11) + 21 ≤ 60 * fu + 6530 by omega⟩) hP hK hD hC hpp cw_1 rfl rfl hl.1 rfl (lv_room (Nat.le_of_ble_eq_true rfl)) dX5_typedApply_34) hS hD hh hpp (fun r_14 S_15 H locs hw_16 hP hD hS hC hh hs_17 hpp => ?_)
    obtain ⟨-, hu9, hw_16⟩ := hw_16
    have hu9 := hu9.symm
    subst hu9
    refine lv_iload_n hx hb dX5_typedApply_37 rfl (lv_at hl 3 rfl) ?_
    refine lv_iload_n hx hb dX5_typedApply_38 rfl (lv_at hl 4 rfl) ?_
    refine lv_iconst (v := 1) hx hb dX5_typedApply_39 (by decide) ?_
    refine lv_iadd hx hb dX5_typedApply_40 ?_
    refine m_top (y := nI (dp + 1)) (nI_add dp 1) ?_
    have hC0 := hC
    refine c_ci (c_runV (As := [.int r_14, .int (nI lv), .int (nI (dp + 1))]) (rest := []) (q0 := 4) (ci := 5) ⟨hx, hb, hml, hown, htu⟩ (ih l G S_6 tx_12T tx_12V tx_12X Y tx_12Z tx_12q N (dp + 1) lv r_14 hC tx_12u ((by omega)) kk_10 tj_11 ((by omega)) ((by omega)) ((by omega)) H) (cwV 3 htu hU_X5_77 rfl rfl rfl (by decide +kernel) ⟨show (2 * fu + 140) + 1 ≤ 2 * fu + 141 by omega, show 8 + (5 + 11) + (60 * fu + 6500) ≤ 60 * fu + 6530 by omega⟩) hP hK hD hC hpp cw_4 rfl rfl hl.1 rfl (lv_room (Nat.le_of_ble_eq_true rfl)) dX5_typedApply_41) hS hD hh hpp (fun r_18 S_19 H locs hw_20 hP hD hS hC hh hs_21 hpp => ?_)
    try dsimp only at hw_20
    have aw_22 : AW [6, 7, 8, 9, 16, 14, 10, 11, 12, 13, 17, 18, 23, 24, 25, 26, 35] [8, 9, 10, 12, 13] S_6 S_19 := hw_20.1
    have aw_22t : AW [6, 7, 8, 9, 16, 14, 10, 11, 12, 13, 17, 18, 23, 24, 25, 26, 35] [8, 9, 10, 12, 13] S S_19 := aw_9t.tr (aw_22.mono (by decide) (by decide))
    have kk_23 : kK S_19 15 = 0 := (aw_22.2.1 15 (lt35 (by decide)) (by decide)).2.trans kk_10
    have tj_24 : TJ S_19 N := TJ.aw tj_11 aw_22 (by decide)
    have tx_25 := hw_20.2
    refine lv_istore (lv' := [(5, .int r_18), (4, .int r_5), (0, .ref (ga G 4)), (1, .int n), (2, .int (nI lv)), (3, .int (nI dp))]) hx hb dX5_typedApply_44 hl (by decide) rfl (fun ls hl => ?_)
    refine lv_iload hx hb dX5_typedApply_46 (lv_at hl 0 rfl) ?_
    refine lv_if_ge (tgt := 54) hx hb dX5_typedApply_48 (by decide) (fun c_26 => ?_) (fun c_26 => ?_)
    · skip
      obtain ⟨tx_25T, tx_25V, tx_25X, tx_25Z, tx_25q, tx_25u, tx_251, tx_252, tx_253, tx_254⟩ := tx_25.ok c_26
      obtain ⟨tx_25t, tx_25v, tx_25b, tx_25x⟩ := id tx_25u.1.2.1
      refine lv_aload_n hx hb dX5_typedApply_54 rfl (lv_at hl 2 rfl) ?_
      refine va_get (D := gD G) (ci := 5) (v := .ref (ga G 2)) (C := RX5) (T := TX5) (N := 15) hx hb htu cu_in5 hown hK hP 4 cw_4 rfl 1 (by decide) (htu _ C_45) (fun _ h9 => h9) rfl dX5_typedApply_55 ?_
      refine lv_iload_n hx hb dX5_typedApply_58 rfl (lv_at hl 4 rfl) ?_
      have hC0 := hC
      refine c_ci (c_runV (As := [.int (nI lv)]) (rest := []) (q0 := 2) (ci := 4) ⟨hx, hb, hml, hown, htu⟩ (y_addVariable l G S_19 tx_25T tx_25V tx_25V tx_25X Y tx_25Z (nI lv) hC tx_25u.1 rfl ((Int32.not_lt.mp (nI_n0 (by omega)))) H) (cwV 1 htu hU_X5_137 rfl rfl rfl (by decide +kernel) ⟨show 4 + 1 ≤ 2 * fu + 141 by omega, show 8 + (4 + 11) + 128 ≤ 60 * fu + 6530 by omega⟩) hP hK hD hC hpp cw_2 rfl rfl hl.1 rfl (lv_room (Nat.le_of_ble_eq_true rfl)) dX5_typedApply_59) hS hD hh hpp (fun r_27 S_28 H locs hw_29 hP hD hS hC hh hs_30 hpp => ?_)
      try dsimp only at hw_29
      have aw_31 : AW [6, 7, 8, 9, 16, 14, 35] [] S_19 S_28 := hw_29.1
      have aw_31t : AW [6, 7, 8, 9, 16, 14, 10, 11, 12, 13, 17, 18, 23, 24, 25, 26, 35] [8, 9, 10, 12, 13] S S_28 := aw_22t.tr (aw_31.mono (by decide) (by decide))
      have kk_32 : kK S_28 15 = 0 := (aw_31.2.1 15 (lt35 (by decide)) (by decide)).2.trans kk_23
      have tj_33 : TJ S_28 N := TJ.aw tj_24 aw_31 (by decide)
      rcases hw_29.2 with ⟨ty_34v, ty_34s⟩ | ⟨ty_34v, ty_34t, ty_34, ty_34o, ty_344, ty_348, ty_34r⟩
      · skip
        subst ty_34v
        refine lv_istore (lv' := [(6, .int ((-6))), (5, .int r_18), (4, .int r_5), (0, .ref (ga G 4)), (1, .int n), (2, .int (nI lv)), (3, .int (nI dp))]) hx hb dX5_typedApply_62 hl (by decide) rfl (fun ls hl => ?_)
        refine lv_iload hx hb dX5_typedApply_64 (lv_at hl 0 rfl) ?_
        refine lv_if_ge (tgt := 72) hx hb dX5_typedApply_66 (by decide) (fun c_35 => absurd c_35 (by decide)) (fun c_35 => ?_)
        refine lv_iload hx hb dX5_typedApply_69 (lv_at hl 0 rfl) ?_
        exact c_iret (v := (-6)) hx hb hr hK hP hD hS hC hh hpp ⟨aw_31t, (by rw [ty_34s]; exact US.txb tx_25u (by omega) (by omega) (by decide))⟩ dX5_typedApply_71 hlocks
      · skip
        subst ty_34v
        obtain ⟨ty_34q, ty_34w, ty_34x, ty_34y⟩ := ty_34r
        have us_36 := US.var tx_25u ty_34 aw_31 (by decide) ty_34w ty_34x ty_34y
        obtain ⟨us_36t, us_36v, us_36b, us_36x⟩ := id us_36.1.2.1
        refine lv_istore (lv' := [(6, .int (nI tx_25T)), (5, .int r_18), (4, .int r_5), (0, .ref (ga G 4)), (1, .int n), (2, .int (nI lv)), (3, .int (nI dp))]) hx hb dX5_typedApply_62 hl (by decide) rfl (fun ls hl => ?_)
        refine lv_iload hx hb dX5_typedApply_64 (lv_at hl 0 rfl) ?_
        refine lv_if_ge (tgt := 72) hx hb dX5_typedApply_66 (by decide) (fun c_37 => ?_) (fun c_37 => absurd (Int32.not_lt.mp (nI_n0 (by omega))) c_37)
        refine lv_aload_n hx hb dX5_typedApply_72 rfl (lv_at hl 3 rfl) ?_
        refine va_get (D := gD G) (ci := 5) (v := .ref (ga G 2)) (C := RX5) (T := TX5) (N := 15) hx hb htu cu_in5 hown hK hP 4 cw_4 rfl 1 (by decide) (htu _ C_45) (fun _ h9 => h9) rfl dX5_typedApply_73 ?_
        refine lv_iload hx hb dX5_typedApply_76 (lv_at hl 1 rfl) ?_
        refine lv_iload hx hb dX5_typedApply_78 (lv_at hl 0 rfl) ?_
        have hC0 := hC
        refine c_ci (c_runV (As := [.int r_18, .int (nI tx_25T)]) (rest := []) (q0 := 2) (ci := 4) ⟨hx, hb, hml, hown, htu⟩ (y_addFunction l G S_28 ((tx_25T + 1)) ((tx_25V + 1)) ((tx_25V + 1)) tx_25X Y tx_25Z r_18 (nI tx_25T) hC us_36.1 H) (cwV 2 htu hU_X5_147 rfl rfl rfl (by decide +kernel) ⟨show 4 + 1 ≤ 2 * fu + 141 by omega, show 8 + (3 + 11) + 128 ≤ 60 * fu + 6530 by omega⟩) hP hK hD hC hpp cw_2 rfl rfl hl.1 rfl (lv_room (Nat.le_of_ble_eq_true rfl)) dX5_typedApply_80) hS hD hh hpp (fun r_38 S_39 H locs hw_40 hP hD hS hC hh hs_41 hpp => ?_)
        try dsimp only at hw_40
        have aw_42 : AW [6, 7, 8, 9, 16] [] S_28 S_39 := hw_40.1
        have aw_42t : AW [6, 7, 8, 9, 16, 14, 10, 11, 12, 13, 17, 18, 23, 24, 25, 26, 35] [8, 9, 10, 12, 13] S S_39 := aw_31t.tr (aw_42.mono (by decide) (by decide))
        have kk_43 : kK S_39 15 = 0 := (aw_42.2.1 15 (lt35 (by decide)) (by decide)).2.trans kk_32
        have tj_44 : TJ S_39 N := TJ.aw tj_33 aw_42 (by decide)
        rcases hw_40.2 with ⟨ty_45v, ty_45s⟩ | ⟨ty_45v, ty_45t, ty_45, ty_45o⟩
        · skip
          subst ty_45v
          refine lv_istore (lv' := [(7, .int ((-6))), (6, .int (nI tx_25T)), (5, .int r_18), (4, .int r_5), (0, .ref (ga G 4)), (1, .int n), (2, .int (nI lv)), (3, .int (nI dp))]) hx hb dX5_typedApply_83 hl (by decide) rfl (fun ls hl => ?_)
          refine lv_iload hx hb dX5_typedApply_85 (lv_at hl 0 rfl) ?_
          refine lv_if_ge (tgt := 95) hx hb dX5_typedApply_87 (by decide) (fun c_46 => absurd c_46 (by decide)) (fun c_46 => ?_)
          refine lv_iload hx hb dX5_typedApply_90 (lv_at hl 0 rfl) ?_
          refine lv_goto (tgt := 104) hx hb dX5_typedApply_92 (by decide) ?_
          refine lv_istore (lv' := [(8, .int ((-6))), (7, .int ((-6))), (6, .int (nI tx_25T)), (5, .int r_18), (4, .int r_5), (0, .ref (ga G 4)), (1, .int n), (2, .int (nI lv)), (3, .int (nI dp))]) hx hb dX5_typedApply_104 hl (by decide) rfl (fun ls hl => ?_)
          refine lv_iload hx hb dX5_typedApply_106 (lv_at hl 0 rfl) ?_
          refine lv_if_ge (tgt := 116) hx hb dX5_typedApply_108 (by decide) (fun c_47 => absurd c_47 (by decide)) (fun c_47 => ?_)
          refine lv_iload hx hb dX5_typedApply_111 (lv_at hl 0 rfl) ?_
          refine lv_goto (tgt := 118) hx hb dX5_typedApply_113 (by decide) ?_
          exact c_iret (v := (-6)) hx hb hr hK hP hD hS hC hh hpp ⟨aw_42t, (by rw [ty_45s]; exact US.txb us_36 (by omega) (by omega) (by decide))⟩ dX5_typedApply_118 hlocks
        · skip
          subst ty_45v
          have us_48 := US.ty us_36 ty_45 aw_42 (by decide) (by decide)
          obtain ⟨us_48t, us_48v, us_48b, us_48x⟩ := id us_48.1.2.1
          refine lv_istore (lv' := [(7, .int (nI ((tx_25T + 1)))), (6, .int (nI tx_25T)), (5, .int r_18), (4, .int r_5), (0, .ref (ga G 4)), (1, .int n), (2, .int (nI lv)), (3, .int (nI dp))]) hx hb dX5_typedApply_83 hl (by decide) rfl (fun ls hl => ?_)
          refine lv_iload hx hb dX5_typedApply_85 (lv_at hl 0 rfl) ?_
          refine lv_if_ge (tgt := 95) hx hb dX5_typedApply_87 (by decide) (fun c_49 => ?_) (fun c_49 => absurd (Int32.not_lt.mp (nI_n0 (by omega))) c_49)
          refine lv_aload_n hx hb dX5_typedApply_95 rfl (lv_at hl 4 rfl) ?_
          refine lv_iload hx hb dX5_typedApply_96 (lv_at hl 3 rfl) ?_
          refine lv_iload hx hb dX5_typedApply_98 (lv_at hl 0 rfl) ?_
          refine lv_iconst (v := 1) hx hb dX5_typedApply_100 (by decide) ?_
          have hC0 := hC
          refine c_ci (c_runV (As := [.int r_5, .int (nI ((tx_25T + 1))), .int 1]) (rest := []) (q0 := 4) (ci := 5) ⟨hx, hb, hml, hown, htu⟩ ((g_under_all 60) l G S_39 (((tx_25T + 1) + 1)) ((tx_25V + 1)) ((tx_25X)) Y tx_25Z tx_25q 1 r_5 (nI ((tx_25T + 1))) hC us_48 ((by omega)) kk_43 ((show 1 + 60 = 61 by decide)) ((by omega)) H) (cwV 3 htu hU_X5_150 rfl rfl rfl (by decide +kernel) ⟨show (60 + 70) + 1 ≤ 2 * fu + 141 by omega, show 8 + (8 + 11) + (40 * 60 + 3000) ≤ 60 * fu + 6530 by omega⟩) hP hK hD hC hpp cw_4 rfl rfl hl.1 rfl (lv_room (Nat.le_of_ble_eq_true rfl)) dX5_typedApply_101) hS hD hh hpp (fun r_50 S_51 H locs hw_52 hP hD hS hC hh hs_53 hpp => ?_)
          try dsimp only at hw_52
          have aw_54 : AW [6, 7, 8, 9, 16, 14, 10, 11, 12, 13, 17, 18, 25, 26, 35] [8, 9, 10, 12] S_39 S_51 := hw_52.1
          have aw_54t : AW [6, 7, 8, 9, 16, 14, 10, 11, 12, 13, 17, 18, 23, 24, 25, 26, 35] [8, 9, 10, 12, 13] S S_51 := aw_42t.tr (aw_54.mono (by decide) (by decide))
          have kk_55 : kK S_51 15 = 0 := (aw_54.2.1 15 (lt35 (by decide)) (by decide)).2.trans kk_43
          have tj_56 : TJ S_51 N := TJ.aw tj_44 aw_54 (by decide)
          have tx_57 := UX.tx hw_52.2
          refine lv_istore (lv' := [(8, .int r_50), (7, .int (nI ((tx_25T + 1)))), (6, .int (nI tx_25T)), (5, .int r_18), (4, .int r_5), (0, .ref (ga G 4)), (1, .int n), (2, .int (nI lv)), (3, .int (nI dp))]) hx hb dX5_typedApply_104 hl (by decide) rfl (fun ls hl => ?_)
          refine lv_iload hx hb dX5_typedApply_106 (lv_at hl 0 rfl) ?_
          refine lv_if_ge (tgt := 116) hx hb dX5_typedApply_108 (by decide) (fun c_58 => ?_) (fun c_58 => ?_)
          · skip
            obtain ⟨tx_57T, tx_57V, tx_57X, tx_57Z, tx_57q, tx_57u, tx_571, tx_572, tx_573, tx_574⟩ := tx_57.ok c_58
            obtain ⟨tx_57t, tx_57v, tx_57b, tx_57x⟩ := id tx_57u.1.2.1
            refine lv_iload hx hb dX5_typedApply_116 (lv_at hl 2 rfl) ?_
            exact c_iret (v := nI tx_25T) hx hb hr hK hP hD hS hC hh hpp ⟨aw_54t, (US.tx tx_57u (by omega) (nI tx_25T))⟩ dX5_typedApply_118 hlocks
          · skip
            refine lv_iload hx hb dX5_typedApply_111 (lv_at hl 0 rfl) ?_
            refine lv_goto (tgt := 118) hx hb dX5_typedApply_113 (by decide) ?_
            exact c_iret (v := r_50) hx hb hr hK hP hD hS hC hh hpp ⟨aw_54t, (TX.bad tx_57 (by omega) (Int32.not_le.mp c_58))⟩ dX5_typedApply_118 hlocks
    · skip
      refine lv_iload hx hb dX5_typedApply_51 (lv_at hl 0 rfl) ?_
      exact c_iret (v := r_18) hx hb hr hK hP hD hS hC hh hpp ⟨aw_22t, (TX.bad tx_25 (by omega) (Int32.not_le.mp c_26))⟩ dX5_typedApply_53 hlocks
  · skip
    refine lv_iload hx hb dX5_typedApply_24 (lv_at hl 0 rfl) ?_
    exact c_iret (v := r_5) hx hb hr hK hP hD hS hC hh hpp ⟨aw_9t, (TX.bad tx_12 (by omega) (Int32.not_le.mp c_13))⟩ dX5_typedApply_26 hlocks

set_option maxHeartbeats 4000000 in
set_option maxRecDepth 100000 in
/-- typedRecord -/
theorem g_typedRecord (l : Launch) (G : cG) (S : cS) (fu : Nat) (T : Nat) (V : Nat) (X : Nat) (Y : Nat) (Z : Nat) (q : Nat) (N : Nat) (dp : Nat) (lv : Nat) (n : Int32) (hC : CL S) (ih : cTypedAt fu) (hU : US S T V X Y Z q) (hq : q ≤ 1500) (h15 : kK S 15 = 0) (hT : TJ S N) (hdp : dp + (fu + 1) = 61) (hlv : lv ≤ dp) (hY2 : Y + (6 * (fu + 1) + 372) ≤ 900) (Hs : Heap) : Met l yX5_typedRecord (wC yX5_typedRecord cX5_typedRecord 8 (some .int)) (cRm S (2 * fu + 141) (60 * fu + 6530)) (cPc G S Hs [.ref (ga G 4), .int n, .int (nI lv), .int (nI dp)]) (cQi G S Hs (fun v u => AW [6, 7, 8, 9, 16, 14, 10, 11, 12, 13, 17, 18, 23, 24, 25, 26, 35] [8, 9, 10, 12, 13] S u ∧ (TX u T V Y q (6 * (fu + 1) + 372) v))) (CC - PT S) (12 * (CC - PT S)) (cA G S Hs.size) := by
  refine Met.ofW (cc := cX5_typedRecord) (maxL := 8) (ret := (some .int)) (by decide) rfl ?_
  intro p e s m args below meth c s₁ B hml hv
  obtain ⟨rfl, hsz, hP, hK, hD0, -⟩ := hv
  have hx := B.exec
  have hb := B.bytes
  have hr := B.returns
  have htu : ∀ w ∈ CU, w.before _ s = true := fun w h => atoms_spec (ws := (wC yX5_typedRecord cX5_typedRecord 8 (some .int))) B.pre w (List.mem_cons_of_mem _ h)
  have hown : s.vm.findClass RX5 = some m.cls := findClass_of_methodNamed B.named
  have hlocks := B.notSynchronized
  subst hsz
  have hD : cD (cA G S s.heap.size) G S := cD_self hD0
  have hl := lv_entry ([.ref (ga G 4), .int n, .int (nI lv), .int (nI dp)]) (n := 8) (Nat.le_of_ble_eq_true rfl)
  rw [lg_entry_eq]
  generalize (lg_sl ([.ref (ga G 4), .int n, .int (nI lv), .int (nI dp)]) ++ List.replicate (8 - (lg_sl ([.ref (ga G 4), .int n, .int (nI lv), .int (nI dp)])).length) Slot.unset).toArray = ls at hl ⊢
  have hl : lv_has ls 8 [(0, .ref (ga G 4)), (1, .int n), (2, .int (nI lv)), (3, .int (nI dp))] := hl
  obtain ⟨H, hHe⟩ : ∃ H : Heap, H = s.heap := ⟨_, rfl⟩
  rw [← hHe] at hP
  have hS : va_S (cA G S s.heap.size) s.heap H [] := by rw [hHe]; exact va_S.rf
  have hh : HS S S := HS.rf
  have hpp : PT S ≤ PT S := Nat.le_refl _
  have hB9 := hC.1
  refine W.heq hHe ?_
  refine c_ent (S := S) ?_
  obtain ⟨tT, tV, tB, tX⟩ := id hU.1.2.1
  refine lv_aload_n hx hb dX5_typedRecord_0 rfl (lv_at hl 0 rfl) ?_
  refine va_get (D := gD G) (ci := 5) (v := .ref (ga G 2)) (C := RX5) (T := TX5) (N := 15) hx hb htu cu_in5 hown hK hP 4 cw_4 rfl 1 (by decide) (htu _ C_45) (fun _ h9 => h9) rfl dX5_typedRecord_1 ?_
  have hC0 := hC
  refine c_ci (c_runV (As := []) (rest := []) (q0 := 2) (ci := 4) ⟨hx, hb, hml, hown, htu⟩ (y_stagedCount l G S  hC  H) (cwV 0 htu hU_X5_153 rfl rfl rfl (by decide +kernel) ⟨show 0 + 1 ≤ 2 * fu + 141 by omega, show 8 + (1 + 11) + 0 ≤ 60 * fu + 6530 by omega⟩) hP hK hD hC hpp cw_2 rfl rfl hl.1 rfl (lv_room (Nat.le_of_ble_eq_true rfl)) dX5_typedRecord_4) hS hD hh hpp (fun r_1 S_2 H locs hw_3 hP hD hS hC hh hs_4 hpp => ?_)
  obtain ⟨-, hu9, hw_3⟩ := hw_3
  have hu9 := hu9.symm
  subst hu9
  obtain rfl : r_1 = nI Y := hw_3.trans (congrArg nI hU.1.1.2.2.2.2.2.2.2.2.2.1)
  refine lv_istore (lv' := [(4, .int (nI Y)), (0, .ref (ga G 4)), (1, .int n), (2, .int (nI lv)), (3, .int (nI dp))]) hx hb dX5_typedRecord_7 hl (by decide) rfl (fun ls hl => ?_)
  refine lv_aload_n hx hb dX5_typedRecord_9 rfl (lv_at hl 1 rfl) ?_
  refine va_get (D := gD G) (ci := 5) (v := .ref (ga G 1)) (C := RX5) (T := TX5) (N := 15) hx hb htu cu_in5 hown hK hP 4 cw_4 rfl 0 (by decide) (htu _ C_60) (fun _ h9 => h9) rfl dX5_typedRecord_10 ?_
  refine lv_iload_n hx hb dX5_typedRecord_13 rfl (lv_at hl 2 rfl) ?_
  have hC0 := hC
  refine c_ci (c_runV (As := [.int n]) (rest := []) (q0 := 1) (ci := 3) ⟨hx, hb, hml, hown, htu⟩ (tt_partCount l G S N n hC hT.1 H) (cwV 1 htu hU_X5_156 rfl rfl rfl (by decide +kernel) ⟨show 1 + 1 ≤ 2 * fu + 141 by omega, show 8 + (2 + 11) + 21 ≤ 60 * fu + 6530 by omega⟩) hP hK hD hC hpp cw_1 rfl rfl hl.1 rfl (lv_room (Nat.le_of_ble_eq_true rfl)) dX5_typedRecord_14) hS hD hh hpp (fun r_5 S_6 H locs hw_7 hP hD hS hC hh hs_8 hpp => ?_)
  obtain ⟨-, hu9, hw_7⟩ := hw_7
  have hu9 := hu9.symm
  subst hu9
  have pc_9 : r_5 ≤ 6 := by rw [hw_7]; exact hT.pc _
  refine lv_istore (lv' := [(5, .int r_5), (4, .int (nI Y)), (0, .ref (ga G 4)), (1, .int n), (2, .int (nI lv)), (3, .int (nI dp))]) hx hb dX5_typedRecord_17 hl (by decide) rfl (fun ls hl => ?_)
  refine lv_iconst (v := 0) hx hb dX5_typedRecord_19 (by decide) ?_
  refine lv_istore (lv' := [(6, .int 0), (5, .int r_5), (4, .int (nI Y)), (0, .ref (ga G 4)), (1, .int n), (2, .int (nI lv)), (3, .int (nI dp))]) hx hb dX5_typedRecord_20 hl (by decide) rfl (fun ls hl => ?_)
  refine w_loop (fun j H locs k sl g => ∃ (S1 : cS) (T1 : Nat) (V1 : Nat) (X1 : Nat) (Z1 : Nat) (q1 : Nat) (i : Nat) (ls : Array Slot), CL S1 ∧ HS S S1 ∧ PT S ≤ PT S1 ∧ AW [6, 7, 8, 9, 16, 14, 10, 11, 12, 13, 17, 18, 23, 24, 25, 26, 35] [8, 9, 10, 12, 13] S S1 ∧ i + j = 6 ∧ US S1 T1 V1 X1 (Y + i) Z1 q1 ∧ (T ≤ T1 ∧ V ≤ V1 ∧ q ≤ q1 ∧ q1 ≤ 1500) ∧ k = PT S1 - PT S ∧ sl = 12 * (PT S1 - PT S) ∧ cP G S1 H ∧ cD (cA G S s.heap.size) G S1 ∧ va_S (cA G S s.heap.size) s.heap H locs ∧ lv_has ls 8 [(0, .ref (ga G 4)), (1, .int n), (2, .int (nI lv)), (3, .int (nI dp)), (4, .int (nI Y)), (5, .int r_5), (6, .int (nI i))] ∧ g = F0 m 22 ls []) ?_ ?_ 6 _ _ _ _ _ ⟨S, T, V, X, Z, q, 0, ls, hC, hh, hpp, AW.rf, by omega, hU, by omega, rfl, rfl, hP, hD, hS, lv_sub hl [3, 4, 5, 6, 2, 1, 0] rfl, rfl⟩
  · intro H locs k sl g hI
    obtain ⟨S1, T1, V1, X1, Z1, q1, i, ls, hC, hh, hpp, hAW, hp0, hp1, hp2, rfl, rfl, hP, hD, hS, hl, rfl⟩ := hI
    have x15 : kK S1 15 = 0 := (hAW.2.1 15 (lt35 (by decide)) (by decide)).2.trans h15
    have tj1 : TJ S1 N := TJ.aw hT hAW (by decide)
    obtain ⟨w1, w2, w3, w4⟩ := hp2
    obtain ⟨wT, wV, wB, wX⟩ := id hp1.1.2.1
    refine lv_iload hx hb dX5_typedRecord_22 (lv_at hl 6 rfl) ?_
    refine lv_iload hx hb dX5_typedRecord_24 (lv_at hl 5 rfl) ?_
    refine lv_icmp_ge (tgt := 82) hx hb dX5_typedRecord_26 (by decide) (fun c_10 => ?_) (fun c_10 => absurd (Int32.le_trans pc_9 (show (6 : Int32) ≤ nI i by rw [show i = 6 by omega]; decide)) c_10)
    refine lv_aload_n hx hb dX5_typedRecord_82 rfl (lv_at hl 0 rfl) ?_
    refine va_get (D := gD G) (ci := 5) (v := .ref (ga G 2)) (C := RX5) (T := TX5) (N := 15) hx hb htu cu_in5 hown hK hP 4 cw_4 rfl 1 (by decide) (htu _ C_45) (fun _ h9 => h9) rfl dX5_typedRecord_83 ?_
    refine lv_iload hx hb dX5_typedRecord_86 (lv_at hl 4 rfl) ?_
    have hC0 := hC
    refine c_ci (c_runV (As := [.int (nI Y)]) (rest := []) (q0 := 2) (ci := 4) ⟨hx, hb, hml, hown, htu⟩ (y_addRecord l G S1 T1 V1 V1 X1 ((Y + i)) Z1 Y hC hp1.1 ((by omega)) ((by omega)) ((by omega)) H) (cwV 1 htu hU_X5_165 rfl rfl rfl (by decide +kernel) ⟨show 4 + 1 ≤ 2 * fu + 141 by omega, show 8 + (6 + 11) + 128 ≤ 60 * fu + 6530 by omega⟩) hP hK hD hC hpp cw_2 rfl rfl hl.1 rfl (lv_room (Nat.le_of_ble_eq_true rfl)) dX5_typedRecord_88) hS hD hh hpp (fun r_11 S_12 H locs hw_13 hP hD hS hC hh hs_14 hpp => ?_)
    try dsimp only at hw_13
    have aw_15 : AW [6, 7, 8, 9, 16, 10, 11, 12, 13] [] S1 S_12 := hw_13.1
    have aw_15t : AW [6, 7, 8, 9, 16, 14, 10, 11, 12, 13, 17, 18, 23, 24, 25, 26, 35] [8, 9, 10, 12, 13] S S_12 := hAW.tr (aw_15.mono (by decide) (by decide))
    have kk_16 : kK S_12 15 = 0 := (aw_15.2.1 15 (lt35 (by decide)) (by decide)).2.trans x15
    have tj_17 : TJ S_12 N := TJ.aw tj1 aw_15 (by decide)
    rcases hw_13.2 with ⟨ty_18v, ty_18s⟩ | ⟨ty_18v, ty_18t, ty_18, ty_18o⟩
    · skip
      subst ty_18v
      exact c_iret (v := (-6)) hx hb hr hK hP hD hS hC hh hpp ⟨aw_15t, (by rw [ty_18s]; exact US.txb hp1 (by omega) (by omega) (by decide))⟩ dX5_typedRecord_91 hlocks
    · skip
      subst ty_18v
      have us_19 := US.ty hp1 ty_18 aw_15 (by decide) (by decide)
      obtain ⟨us_19t, us_19v, us_19b, us_19x⟩ := id us_19.1.2.1
      exact c_iret (v := nI T1) hx hb hr hK hP hD hS hC hh hpp ⟨aw_15t, (US.tx us_19 (by omega) (nI T1))⟩ dX5_typedRecord_91 hlocks
  · intro j ih9 H locs k sl g hI
    obtain ⟨S1, T1, V1, X1, Z1, q1, i, ls, hC, hh, hpp, hAW, hp0, hp1, hp2, rfl, rfl, hP, hD, hS, hl, rfl⟩ := hI
    have x15 : kK S1 15 = 0 := (hAW.2.1 15 (lt35 (by decide)) (by decide)).2.trans h15
    have tj1 : TJ S1 N := TJ.aw hT hAW (by decide)
    obtain ⟨w1, w2, w3, w4⟩ := hp2
    obtain ⟨wT, wV, wB, wX⟩ := id hp1.1.2.1
    have i5 : i ≤ 5 := by omega
    refine lv_iload hx hb dX5_typedRecord_22 (lv_at hl 6 rfl) ?_
    refine lv_iload hx hb dX5_typedRecord_24 (lv_at hl 5 rfl) ?_
    refine lv_icmp_ge (tgt := 82) hx hb dX5_typedRecord_26 (by decide) (fun c_20 => ?_) (fun c_20 => ?_)
    · skip
      refine lv_aload_n hx hb dX5_typedRecord_82 rfl (lv_at hl 0 rfl) ?_
      refine va_get (D := gD G) (ci := 5) (v := .ref (ga G 2)) (C := RX5) (T := TX5) (N := 15) hx hb htu cu_in5 hown hK hP 4 cw_4 rfl 1 (by decide) (htu _ C_45) (fun _ h9 => h9) rfl dX5_typedRecord_83 ?_
      refine lv_iload hx hb dX5_typedRecord_86 (lv_at hl 4 rfl) ?_
      have hC0 := hC
      refine c_ci (c_runV (As := [.int (nI Y)]) (rest := []) (q0 := 2) (ci := 4) ⟨hx, hb, hml, hown, htu⟩ (y_addRecord l G S1 T1 V1 V1 X1 ((Y + i)) Z1 Y hC hp1.1 ((by omega)) ((by omega)) ((by omega)) H) (cwV 1 htu hU_X5_165 rfl rfl rfl (by decide +kernel) ⟨show 4 + 1 ≤ 2 * fu + 141 by omega, show 8 + (6 + 11) + 128 ≤ 60 * fu + 6530 by omega⟩) hP hK hD hC hpp cw_2 rfl rfl hl.1 rfl (lv_room (Nat.le_of_ble_eq_true rfl)) dX5_typedRecord_88) hS hD hh hpp (fun r_21 S_22 H locs hw_23 hP hD hS hC hh hs_24 hpp => ?_)
      try dsimp only at hw_23
      have aw_25 : AW [6, 7, 8, 9, 16, 10, 11, 12, 13] [] S1 S_22 := hw_23.1
      have aw_25t : AW [6, 7, 8, 9, 16, 14, 10, 11, 12, 13, 17, 18, 23, 24, 25, 26, 35] [8, 9, 10, 12, 13] S S_22 := hAW.tr (aw_25.mono (by decide) (by decide))
      have kk_26 : kK S_22 15 = 0 := (aw_25.2.1 15 (lt35 (by decide)) (by decide)).2.trans x15
      have tj_27 : TJ S_22 N := TJ.aw tj1 aw_25 (by decide)
      rcases hw_23.2 with ⟨ty_28v, ty_28s⟩ | ⟨ty_28v, ty_28t, ty_28, ty_28o⟩
      · skip
        subst ty_28v
        exact c_iret (v := (-6)) hx hb hr hK hP hD hS hC hh hpp ⟨aw_25t, (by rw [ty_28s]; exact US.txb hp1 (by omega) (by omega) (by decide))⟩ dX5_typedRecord_91 hlocks
      · skip
        subst ty_28v
        have us_29 := US.ty hp1 ty_28 aw_25 (by decide) (by decide)
        obtain ⟨us_29t, us_29v, us_29b, us_29x⟩ := id us_29.1.2.1
        exact c_iret (v := nI T1) hx hb hr hK hP hD hS hC hh hpp ⟨aw_25t, (US.tx us_29 (by omega) (nI T1))⟩ dX5_typedRecord_91 hlocks
    · skip
      refine lv_aload_n hx hb dX5_typedRecord_29 rfl (lv_at hl 0 rfl) ?_
      refine lv_aload_n hx hb dX5_typedRecord_30 rfl (lv_at hl 0 rfl) ?_
      refine va_get (D := gD G) (ci := 5) (v := .ref (ga G 1)) (C := RX5) (T := TX5) (N := 15) hx hb htu cu_in5 hown hK hP 4 cw_4 rfl 0 (by decide) (htu _ C_60) (fun _ h9 => h9) rfl dX5_typedRecord_31 ?_
      refine lv_iload_n hx hb dX5_typedRecord_34 rfl (lv_at hl 1 rfl) ?_
      refine lv_iload hx hb dX5_typedRecord_35 (lv_at hl 6 rfl) ?_
      have hC0 := hC
      refine c_ci (c_runV (As := [.int n, .int (nI i)]) (rest := [.ref (ga G 4)]) (q0 := 1) (ci := 3) ⟨hx, hb, hml, hown, htu⟩ (tt_partOf l G S1 N n (nI i) hC tj1.1 H) (cwV 2 htu hU_X5_144 rfl rfl rfl (by decide +kernel) ⟨show 1 + 1 ≤ 2 * fu + 141 by omega, show 8 + (3 + 11) + 21 ≤ 60 * fu + 6530 by omega⟩) hP hK hD hC hpp cw_1 rfl rfl hl.1 rfl (lv_room (Nat.le_of_ble_eq_true rfl)) dX5_typedRecord_37) hS hD hh hpp (fun r_30 S_31 H locs hw_32 hP hD hS hC hh hs_33 hpp => ?_)
      obtain ⟨-, hu9, hw_32⟩ := hw_32
      have hu9 := hu9.symm
      subst hu9
      refine lv_iload_n hx hb dX5_typedRecord_40 rfl (lv_at hl 2 rfl) ?_
      refine lv_iload_n hx hb dX5_typedRecord_41 rfl (lv_at hl 3 rfl) ?_
      refine lv_iconst (v := 1) hx hb dX5_typedRecord_42 (by decide) ?_
      refine lv_iadd hx hb dX5_typedRecord_43 ?_
      refine m_top (y := nI (dp + 1)) (nI_add dp 1) ?_
      have hC0 := hC
      refine c_ci (c_runV (As := [.int r_30, .int (nI lv), .int (nI (dp + 1))]) (rest := []) (q0 := 4) (ci := 5) ⟨hx, hb, hml, hown, htu⟩ (ih l G S1 T1 V1 X1 ((Y + i)) Z1 q1 N (dp + 1) lv r_30 hC hp1 ((by omega)) x15 tj1 ((by omega)) ((by omega)) ((by omega)) H) (cwV 3 htu hU_X5_77 rfl rfl rfl (by decide +kernel) ⟨show (2 * fu + 140) + 1 ≤ 2 * fu + 141 by omega, show 8 + (5 + 11) + (60 * fu + 6500) ≤ 60 * fu + 6530 by omega⟩) hP hK hD hC hpp cw_4 rfl rfl hl.1 rfl (lv_room (Nat.le_of_ble_eq_true rfl)) dX5_typedRecord_44) hS hD hh hpp (fun r_34 S_35 H locs hw_36 hP hD hS hC hh hs_37 hpp => ?_)
      try dsimp only at hw_36
      have aw_38 : AW [6, 7, 8, 9, 16, 14, 10, 11, 12, 13, 17, 18, 23, 24, 25, 26, 35] [8, 9, 10, 12, 13] S1 S_35 := hw_36.1
      have aw_38t : AW [6, 7, 8, 9, 16, 14, 10, 11, 12, 13, 17, 18, 23, 24, 25, 26, 35] [8, 9, 10, 12, 13] S S_35 := hAW.tr (aw_38.mono (by decide) (by decide))
      have kk_39 : kK S_35 15 = 0 := (aw_38.2.1 15 (lt35 (by decide)) (by decide)).2.trans x15
      have tj_40 : TJ S_35 N := TJ.aw tj1 aw_38 (by decide)
      have tx_41 := hw_36.2
      refine lv_istore (lv' := [(7, .int r_34), (0, .ref (ga G 4)), (1, .int n), (2, .int (nI lv)), (3, .int (nI dp)), (4, .int (nI Y)), (5, .int r_5), (6, .int (nI i))]) hx hb dX5_typedRecord_47 hl (by decide) rfl (fun ls hl => ?_)
      refine lv_iload hx hb dX5_typedRecord_49 (lv_at hl 0 rfl) ?_
      refine lv_if_ge (tgt := 57) hx hb dX5_typedRecord_51 (by decide) (fun c_42 => ?_) (fun c_42 => ?_)
      · skip
        obtain ⟨tx_41T, tx_41V, tx_41X, tx_41Z, tx_41q, tx_41u, tx_411, tx_412, tx_413, tx_414⟩ := tx_41.ok c_42
        obtain ⟨tx_41t, tx_41v, tx_41b, tx_41x⟩ := id tx_41u.1.2.1
        refine lv_aload_n hx hb dX5_typedRecord_57 rfl (lv_at hl 1 rfl) ?_
        refine va_get (D := gD G) (ci := 5) (v := .ref (ga G 2)) (C := RX5) (T := TX5) (N := 15) hx hb htu cu_in5 hown hK hP 4 cw_4 rfl 1 (by decide) (htu _ C_45) (fun _ h9 => h9) rfl dX5_typedRecord_58 ?_
        refine lv_aload_n hx hb dX5_typedRecord_61 rfl (lv_at hl 1 rfl) ?_
        refine va_get (D := gD G) (ci := 5) (v := .ref (ga G 1)) (C := RX5) (T := TX5) (N := 15) hx hb htu cu_in5 hown hK hP 4 cw_4 rfl 0 (by decide) (htu _ C_60) (fun _ h9 => h9) rfl dX5_typedRecord_62 ?_
        refine lv_iload_n hx hb dX5_typedRecord_65 rfl (lv_at hl 2 rfl) ?_
        refine lv_iload hx hb dX5_typedRecord_66 (lv_at hl 7 rfl) ?_
        have hC0 := hC
        refine c_ci (c_runV (As := [.int n, .int (nI i)]) (rest := [.ref (ga G 2)]) (q0 := 1) (ci := 3) ⟨hx, hb, hml, hown, htu⟩ (tt_labelOf l G S_35 N n (nI i) hC tj_40.1 H) (cwV 2 htu hU_X5_159 rfl rfl rfl (by decide +kernel) ⟨show 1 + 1 ≤ 2 * fu + 141 by omega, show 8 + (3 + 11) + 21 ≤ 60 * fu + 6530 by omega⟩) hP hK hD hC hpp cw_1 rfl rfl hl.1 rfl (lv_room (Nat.le_of_ble_eq_true rfl)) dX5_typedRecord_68) hS hD hh hpp (fun r_43 S_44 H locs hw_45 hP hD hS hC hh hs_46 hpp => ?_)
        obtain ⟨-, hu9, hw_45⟩ := hw_45
        have hu9 := hu9.symm
        subst hu9
        refine lv_iload hx hb dX5_typedRecord_71 (lv_at hl 0 rfl) ?_
        have hC0 := hC
        refine c_cv (c_runV (As := [.int r_43, .int r_34]) (rest := []) (q0 := 2) (ci := 4) ⟨hx, hb, hml, hown, htu⟩ (y_stage l G S_35 tx_41T tx_41V tx_41V tx_41X ((Y + i)) tx_41Z r_43 r_34 hC tx_41u.1 ((by omega)) H) (cwV 2 htu hU_X5_162 rfl rfl rfl (by decide +kernel) ⟨show 3 + 1 ≤ 2 * fu + 141 by omega, show 8 + (3 + 11) + 103 ≤ 60 * fu + 6530 by omega⟩) hP hK hD hC hpp cw_2 rfl rfl hl.1 rfl (lv_room (Nat.le_of_ble_eq_true rfl)) dX5_typedRecord_73) hS hD hh hpp (fun S_48 H locs hw_49 hP hD hS hC hh hs_50 hpp => ?_)
        try dsimp only at hw_49
        have aw_51 : AW [12, 13] [] S_35 S_48 := hw_49.1
        have aw_51t : AW [6, 7, 8, 9, 16, 14, 10, 11, 12, 13, 17, 18, 23, 24, 25, 26, 35] [8, 9, 10, 12, 13] S S_48 := aw_38t.tr (aw_51.mono (by decide) (by decide))
        have kk_52 : kK S_48 15 = 0 := (aw_51.2.1 15 (lt35 (by decide)) (by decide)).2.trans kk_39
        have tj_53 : TJ S_48 N := TJ.aw tj_40 aw_51 (by decide)
        have ty_54 := hw_49.2
        have us_55 := US.ty tx_41u ty_54 aw_51 (by decide) (by decide)
        refine lv_iinc (v := nI (i + 1)) (lv' := [(6, .int (nI (i + 1))), (7, .int r_34), (0, .ref (ga G 4)), (1, .int n), (2, .int (nI lv)), (3, .int (nI dp)), (4, .int (nI Y)), (5, .int r_5)]) hx hb dX5_typedRecord_76 hl (k := 7) rfl (nI_1 i) (by decide) rfl (fun ls hl => ?_)
        refine lv_goto (tgt := 22) hx hb dX5_typedRecord_79 (by decide) ?_
        exact ih9 _ _ _ _ _ ⟨S_48, tx_41T, tx_41V, tx_41X, tx_41Z, tx_41q, i + 1, ls, hC, hh, hpp, aw_51t, by omega, us_55, by omega, rfl, rfl, hP, hD, hS, lv_sub hl [2, 3, 4, 5, 6, 7, 0] rfl, rfl⟩
      · skip
        refine lv_iload hx hb dX5_typedRecord_54 (lv_at hl 0 rfl) ?_
        exact c_iret (v := r_34) hx hb hr hK hP hD hS hC hh hpp ⟨aw_38t, (TX.bad tx_41 (by omega) (Int32.not_le.mp c_42))⟩ dX5_typedRecord_56 hlocks

set_option maxHeartbeats 4000000 in
set_option maxRecDepth 100000 in
/-- typedField -/
theorem g_typedField (l : Launch) (G : cG) (S : cS) (fu : Nat) (T : Nat) (V : Nat) (X : Nat) (Y : Nat) (Z : Nat) (q : Nat) (N : Nat) (dp : Nat) (lv : Nat) (n : Int32) (hC : CL S) (ih : cTypedAt fu) (hU : US S T V X Y Z q) (hq : q ≤ 1500) (h15 : kK S 15 = 0) (hT : TJ S N) (hdp : dp + (fu + 1) = 61) (hlv : lv ≤ dp) (hY2 : Y + (6 * (fu + 1) + 372) ≤ 900) (Hs : Heap) : Met l yX5_typedField (wC yX5_typedField cX5_typedField 9 (some .int)) (cRm S (2 * fu + 141) (60 * fu + 6530)) (cPc G S Hs [.ref (ga G 4), .int n, .int (nI lv), .int (nI dp)]) (cQi G S Hs (fun v u => AW [6, 7, 8, 9, 16, 14, 10, 11, 12, 13, 17, 18, 23, 24, 25, 26, 35] [8, 9, 10, 12, 13] S u ∧ (TX u T V Y q (6 * (fu + 1) + 372) v))) (CC - PT S) (12 * (CC - PT S)) (cA G S Hs.size) := by
  refine Met.ofW (cc := cX5_typedField) (maxL := 9) (ret := (some .int)) (by decide) rfl ?_
  intro p e s m args below meth c s₁ B hml hv
  obtain ⟨rfl, hsz, hP, hK, hD0, -⟩ := hv
  have hx := B.exec
  have hb := B.bytes
  have hr := B.returns
  have htu : ∀ w ∈ CU, w.before _ s = true := fun w h => atoms_spec (ws := (wC yX5_typedField cX5_typedField 9 (some .int))) B.pre w (List.mem_cons_of_mem _ h)
  have hown : s.vm.findClass RX5 = some m.cls := findClass_of_methodNamed B.named
  have hlocks := B.notSynchronized
  subst hsz
  have hD : cD (cA G S s.heap.size) G S := cD_self hD0
  have hl := lv_entry ([.ref (ga G 4), .int n, .int (nI lv), .int (nI dp)]) (n := 9) (Nat.le_of_ble_eq_true rfl)
  rw [lg_entry_eq]
  generalize (lg_sl ([.ref (ga G 4), .int n, .int (nI lv), .int (nI dp)]) ++ List.replicate (9 - (lg_sl ([.ref (ga G 4), .int n, .int (nI lv), .int (nI dp)])).length) Slot.unset).toArray = ls at hl ⊢
  have hl : lv_has ls 9 [(0, .ref (ga G 4)), (1, .int n), (2, .int (nI lv)), (3, .int (nI dp))] := hl
  obtain ⟨H, hHe⟩ : ∃ H : Heap, H = s.heap := ⟨_, rfl⟩
  rw [← hHe] at hP
  have hS : va_S (cA G S s.heap.size) s.heap H [] := by rw [hHe]; exact va_S.rf
  have hh : HS S S := HS.rf
  have hpp : PT S ≤ PT S := Nat.le_refl _
  have hB9 := hC.1
  refine W.heq hHe ?_
  refine c_ent (S := S) ?_
  obtain ⟨tT, tV, tB, tX⟩ := id hU.1.2.1
  refine lv_aload_n hx hb dX5_typedField_0 rfl (lv_at hl 0 rfl) ?_
  refine lv_aload_n hx hb dX5_typedField_1 rfl (lv_at hl 0 rfl) ?_
  refine va_get (D := gD G) (ci := 5) (v := .ref (ga G 1)) (C := RX5) (T := TX5) (N := 15) hx hb htu cu_in5 hown hK hP 4 cw_4 rfl 0 (by decide) (htu _ C_60) (fun _ h9 => h9) rfl dX5_typedField_2 ?_
  refine lv_iload_n hx hb dX5_typedField_5 rfl (lv_at hl 1 rfl) ?_
  refine lv_iconst (v := 0) hx hb dX5_typedField_6 (by decide) ?_
  have hC0 := hC
  refine c_ci (c_runV (As := [.int n, .int 0]) (rest := [.ref (ga G 4)]) (q0 := 1) (ci := 3) ⟨hx, hb, hml, hown, htu⟩ (tt_partOf l G S N n 0 hC hT.1 H) (cwV 2 htu hU_X5_144 rfl rfl rfl (by decide +kernel) ⟨show 1 + 1 ≤ 2 * fu + 141 by omega, show 8 + (3 + 11) + 21 ≤ 60 * fu + 6530 by omega⟩) hP hK hD hC hpp cw_1 rfl rfl hl.1 rfl (lv_room (Nat.le_of_ble_eq_true rfl)) dX5_typedField_7) hS hD hh hpp (fun r_1 S_2 H locs hw_3 hP hD hS hC hh hs_4 hpp => ?_)
  obtain ⟨-, hu9, hw_3⟩ := hw_3
  have hu9 := hu9.symm
  subst hu9
  refine lv_iload_n hx hb dX5_typedField_10 rfl (lv_at hl 2 rfl) ?_
  refine lv_iload_n hx hb dX5_typedField_11 rfl (lv_at hl 3 rfl) ?_
  refine lv_iconst (v := 1) hx hb dX5_typedField_12 (by decide) ?_
  refine lv_iadd hx hb dX5_typedField_13 ?_
  refine m_top (y := nI (dp + 1)) (nI_add dp 1) ?_
  have hC0 := hC
  refine c_ci (c_runV (As := [.int r_1, .int (nI lv), .int (nI (dp + 1))]) (rest := []) (q0 := 4) (ci := 5) ⟨hx, hb, hml, hown, htu⟩ (ih l G S T V X Y Z q N (dp + 1) lv r_1 hC hU ((by omega)) h15 hT ((by omega)) ((by omega)) ((by omega)) H) (cwV 3 htu hU_X5_77 rfl rfl rfl (by decide +kernel) ⟨show (2 * fu + 140) + 1 ≤ 2 * fu + 141 by omega, show 8 + (5 + 11) + (60 * fu + 6500) ≤ 60 * fu + 6530 by omega⟩) hP hK hD hC hpp cw_4 rfl rfl hl.1 rfl (lv_room (Nat.le_of_ble_eq_true rfl)) dX5_typedField_14) hS hD hh hpp (fun r_5 S_6 H locs hw_7 hP hD hS hC hh hs_8 hpp => ?_)
  try dsimp only at hw_7
  have aw_9 : AW [6, 7, 8, 9, 16, 14, 10, 11, 12, 13, 17, 18, 23, 24, 25, 26, 35] [8, 9, 10, 12, 13] S S_6 := hw_7.1
  have aw_9t : AW [6, 7, 8, 9, 16, 14, 10, 11, 12, 13, 17, 18, 23, 24, 25, 26, 35] [8, 9, 10, 12, 13] S S_6 := AW.rf.tr (aw_9.mono (by decide) (by decide))
  have kk_10 : kK S_6 15 = 0 := (aw_9.2.1 15 (lt35 (by decide)) (by decide)).2.trans h15
  have tj_11 : TJ S_6 N := TJ.aw hT aw_9 (by decide)
  have tx_12 := hw_7.2
  refine lv_istore (lv' := [(4, .int r_5), (0, .ref (ga G 4)), (1, .int n), (2, .int (nI lv)), (3, .int (nI dp))]) hx hb dX5_typedField_17 hl (by decide) rfl (fun ls hl => ?_)
  refine lv_iload hx hb dX5_typedField_19 (lv_at hl 0 rfl) ?_
  refine lv_if_ge (tgt := 27) hx hb dX5_typedField_21 (by decide) (fun c_13 => ?_) (fun c_13 => ?_)
  · skip
    obtain ⟨tx_12T, tx_12V, tx_12X, tx_12Z, tx_12q, tx_12u, tx_121, tx_122, tx_123, tx_124⟩ := tx_12.ok c_13
    obtain ⟨tx_12t, tx_12v, tx_12b, tx_12x⟩ := id tx_12u.1.2.1
    refine lv_aload_n hx hb dX5_typedField_27 rfl (lv_at hl 1 rfl) ?_
    refine va_get (D := gD G) (ci := 5) (v := .ref (ga G 2)) (C := RX5) (T := TX5) (N := 15) hx hb htu cu_in5 hown hK hP 4 cw_4 rfl 1 (by decide) (htu _ C_45) (fun _ h9 => h9) rfl dX5_typedField_28 ?_
    refine lv_iload_n hx hb dX5_typedField_31 rfl (lv_at hl 3 rfl) ?_
    have hC0 := hC
    refine c_ci (c_runV (As := [.int (nI lv)]) (rest := []) (q0 := 2) (ci := 4) ⟨hx, hb, hml, hown, htu⟩ (y_addVariable l G S_6 tx_12T tx_12V tx_12V tx_12X Y tx_12Z (nI lv) hC tx_12u.1 rfl ((Int32.not_lt.mp (nI_n0 (by omega)))) H) (cwV 1 htu hU_X5_137 rfl rfl rfl (by decide +kernel) ⟨show 4 + 1 ≤ 2 * fu + 141 by omega, show 8 + (4 + 11) + 128 ≤ 60 * fu + 6530 by omega⟩) hP hK hD hC hpp cw_2 rfl rfl hl.1 rfl (lv_room (Nat.le_of_ble_eq_true rfl)) dX5_typedField_32) hS hD hh hpp (fun r_14 S_15 H locs hw_16 hP hD hS hC hh hs_17 hpp => ?_)
    try dsimp only at hw_16
    have aw_18 : AW [6, 7, 8, 9, 16, 14, 35] [] S_6 S_15 := hw_16.1
    have aw_18t : AW [6, 7, 8, 9, 16, 14, 10, 11, 12, 13, 17, 18, 23, 24, 25, 26, 35] [8, 9, 10, 12, 13] S S_15 := aw_9t.tr (aw_18.mono (by decide) (by decide))
    have kk_19 : kK S_15 15 = 0 := (aw_18.2.1 15 (lt35 (by decide)) (by decide)).2.trans kk_10
    have tj_20 : TJ S_15 N := TJ.aw tj_11 aw_18 (by decide)
    rcases hw_16.2 with ⟨ty_21v, ty_21s⟩ | ⟨ty_21v, ty_21t, ty_21, ty_21o, ty_214, ty_218, ty_21r⟩
    · skip
      subst ty_21v
      refine lv_istore (lv' := [(5, .int ((-6))), (4, .int r_5), (0, .ref (ga G 4)), (1, .int n), (2, .int (nI lv)), (3, .int (nI dp))]) hx hb dX5_typedField_35 hl (by decide) rfl (fun ls hl => ?_)
      refine lv_iload hx hb dX5_typedField_37 (lv_at hl 0 rfl) ?_
      refine lv_if_ge (tgt := 45) hx hb dX5_typedField_39 (by decide) (fun c_22 => absurd c_22 (by decide)) (fun c_22 => ?_)
      refine lv_iload hx hb dX5_typedField_42 (lv_at hl 0 rfl) ?_
      exact c_iret (v := (-6)) hx hb hr hK hP hD hS hC hh hpp ⟨aw_18t, (by rw [ty_21s]; exact US.txb tx_12u (by omega) (by omega) (by decide))⟩ dX5_typedField_44 hlocks
    · skip
      subst ty_21v
      obtain ⟨ty_21q, ty_21w, ty_21x, ty_21y⟩ := ty_21r
      have us_23 := US.var tx_12u ty_21 aw_18 (by decide) ty_21w ty_21x ty_21y
      obtain ⟨us_23t, us_23v, us_23b, us_23x⟩ := id us_23.1.2.1
      refine lv_istore (lv' := [(5, .int (nI tx_12T)), (4, .int r_5), (0, .ref (ga G 4)), (1, .int n), (2, .int (nI lv)), (3, .int (nI dp))]) hx hb dX5_typedField_35 hl (by decide) rfl (fun ls hl => ?_)
      refine lv_iload hx hb dX5_typedField_37 (lv_at hl 0 rfl) ?_
      refine lv_if_ge (tgt := 45) hx hb dX5_typedField_39 (by decide) (fun c_24 => ?_) (fun c_24 => absurd (Int32.not_lt.mp (nI_n0 (by omega))) c_24)
      refine lv_aload_n hx hb dX5_typedField_45 rfl (lv_at hl 2 rfl) ?_
      refine va_get (D := gD G) (ci := 5) (v := .ref (ga G 2)) (C := RX5) (T := TX5) (N := 15) hx hb htu cu_in5 hown hK hP 4 cw_4 rfl 1 (by decide) (htu _ C_45) (fun _ h9 => h9) rfl dX5_typedField_46 ?_
      have hC0 := hC
      refine c_ci (c_runV (As := []) (rest := []) (q0 := 2) (ci := 4) ⟨hx, hb, hml, hown, htu⟩ (y_stagedCount l G S_15  hC  H) (cwV 0 htu hU_X5_153 rfl rfl rfl (by decide +kernel) ⟨show 0 + 1 ≤ 2 * fu + 141 by omega, show 8 + (1 + 11) + 0 ≤ 60 * fu + 6530 by omega⟩) hP hK hD hC hpp cw_2 rfl rfl hl.1 rfl (lv_room (Nat.le_of_ble_eq_true rfl)) dX5_typedField_49) hS hD hh hpp (fun r_25 S_26 H locs hw_27 hP hD hS hC hh hs_28 hpp => ?_)
      obtain ⟨-, hu9, hw_27⟩ := hw_27
      have hu9 := hu9.symm
      subst hu9
      obtain rfl : r_25 = nI Y := hw_27.trans (congrArg nI us_23.1.1.2.2.2.2.2.2.2.2.2.1)
      refine lv_istore (lv' := [(6, .int (nI Y)), (5, .int (nI tx_12T)), (4, .int r_5), (0, .ref (ga G 4)), (1, .int n), (2, .int (nI lv)), (3, .int (nI dp))]) hx hb dX5_typedField_52 hl (by decide) rfl (fun ls hl => ?_)
      refine lv_aload_n hx hb dX5_typedField_54 rfl (lv_at hl 3 rfl) ?_
      refine va_get (D := gD G) (ci := 5) (v := .ref (ga G 2)) (C := RX5) (T := TX5) (N := 15) hx hb htu cu_in5 hown hK hP 4 cw_4 rfl 1 (by decide) (htu _ C_45) (fun _ h9 => h9) rfl dX5_typedField_55 ?_
      refine lv_aload_n hx hb dX5_typedField_58 rfl (lv_at hl 3 rfl) ?_
      refine va_get (D := gD G) (ci := 5) (v := .ref (ga G 1)) (C := RX5) (T := TX5) (N := 15) hx hb htu cu_in5 hown hK hP 4 cw_4 rfl 0 (by decide) (htu _ C_60) (fun _ h9 => h9) rfl dX5_typedField_59 ?_
      refine lv_iload_n hx hb dX5_typedField_62 rfl (lv_at hl 4 rfl) ?_
      have hC0 := hC
      refine c_ci (c_runV (As := [.int n]) (rest := [.ref (ga G 2)]) (q0 := 1) (ci := 3) ⟨hx, hb, hml, hown, htu⟩ (tt_markOf l G S_15 N n hC tj_20.1 H) (cwV 1 htu hU_X5_168 rfl rfl rfl (by decide +kernel) ⟨show 1 + 1 ≤ 2 * fu + 141 by omega, show 8 + (2 + 11) + 21 ≤ 60 * fu + 6530 by omega⟩) hP hK hD hC hpp cw_1 rfl rfl hl.1 rfl (lv_room (Nat.le_of_ble_eq_true rfl)) dX5_typedField_63) hS hD hh hpp (fun r_29 S_30 H locs hw_31 hP hD hS hC hh hs_32 hpp => ?_)
      obtain ⟨-, hu9, hw_31⟩ := hw_31
      have hu9 := hu9.symm
      subst hu9
      refine lv_iload hx hb dX5_typedField_66 (lv_at hl 1 rfl) ?_
      have hC0 := hC
      refine c_cv (c_runV (As := [.int r_29, .int (nI tx_12T)]) (rest := []) (q0 := 2) (ci := 4) ⟨hx, hb, hml, hown, htu⟩ (y_stage l G S_15 ((tx_12T + 1)) ((tx_12V + 1)) ((tx_12V + 1)) tx_12X Y tx_12Z r_29 (nI tx_12T) hC us_23.1 ((by omega)) H) (cwV 2 htu hU_X5_162 rfl rfl rfl (by decide +kernel) ⟨show 3 + 1 ≤ 2 * fu + 141 by omega, show 8 + (3 + 11) + 103 ≤ 60 * fu + 6530 by omega⟩) hP hK hD hC hpp cw_2 rfl rfl hl.1 rfl (lv_room (Nat.le_of_ble_eq_true rfl)) dX5_typedField_68) hS hD hh hpp (fun S_34 H locs hw_35 hP hD hS hC hh hs_36 hpp => ?_)
      try dsimp only at hw_35
      have aw_37 : AW [12, 13] [] S_15 S_34 := hw_35.1
      have aw_37t : AW [6, 7, 8, 9, 16, 14, 10, 11, 12, 13, 17, 18, 23, 24, 25, 26, 35] [8, 9, 10, 12, 13] S S_34 := aw_18t.tr (aw_37.mono (by decide) (by decide))
      have kk_38 : kK S_34 15 = 0 := (aw_37.2.1 15 (lt35 (by decide)) (by decide)).2.trans kk_19
      have tj_39 : TJ S_34 N := TJ.aw tj_20 aw_37 (by decide)
      have ty_40 := hw_35.2
      have us_41 := US.ty us_23 ty_40 aw_37 (by decide) (by decide)
      refine lv_aload_n hx hb dX5_typedField_71 rfl (lv_at hl 3 rfl) ?_
      refine va_get (D := gD G) (ci := 5) (v := .ref (ga G 2)) (C := RX5) (T := TX5) (N := 15) hx hb htu cu_in5 hown hK hP 4 cw_4 rfl 1 (by decide) (htu _ C_45) (fun _ h9 => h9) rfl dX5_typedField_72 ?_
      refine lv_iload hx hb dX5_typedField_75 (lv_at hl 0 rfl) ?_
      have hC0 := hC
      refine c_ci (c_runV (As := [.int (nI Y)]) (rest := []) (q0 := 2) (ci := 4) ⟨hx, hb, hml, hown, htu⟩ (y_addRecord l G S_34 ((tx_12T + 1)) ((tx_12V + 1)) ((tx_12V + 1)) tx_12X ((Y + 1)) tx_12Z Y hC us_41.1 ((by omega)) ((by omega)) ((by omega)) H) (cwV 1 htu hU_X5_165 rfl rfl rfl (by decide +kernel) ⟨show 4 + 1 ≤ 2 * fu + 141 by omega, show 8 + (6 + 11) + 128 ≤ 60 * fu + 6530 by omega⟩) hP hK hD hC hpp cw_2 rfl rfl hl.1 rfl (lv_room (Nat.le_of_ble_eq_true rfl)) dX5_typedField_77) hS hD hh hpp (fun r_42 S_43 H locs hw_44 hP hD hS hC hh hs_45 hpp => ?_)
      try dsimp only at hw_44
      have aw_46 : AW [6, 7, 8, 9, 16, 10, 11, 12, 13] [] S_34 S_43 := hw_44.1
      have aw_46t : AW [6, 7, 8, 9, 16, 14, 10, 11, 12, 13, 17, 18, 23, 24, 25, 26, 35] [8, 9, 10, 12, 13] S S_43 := aw_37t.tr (aw_46.mono (by decide) (by decide))
      have kk_47 : kK S_43 15 = 0 := (aw_46.2.1 15 (lt35 (by decide)) (by decide)).2.trans kk_38
      have tj_48 : TJ S_43 N := TJ.aw tj_39 aw_46 (by decide)
      rcases hw_44.2 with ⟨ty_49v, ty_49s⟩ | ⟨ty_49v, ty_49t, ty_49, ty_49o⟩
      · skip
        subst ty_49v
        refine lv_istore (lv' := [(7, .int ((-6))), (6, .int (nI Y)), (5, .int (nI tx_12T)), (4, .int r_5), (0, .ref (ga G 4)), (1, .int n), (2, .int (nI lv)), (3, .int (nI dp))]) hx hb dX5_typedField_80 hl (by decide) rfl (fun ls hl => ?_)
        refine lv_iload hx hb dX5_typedField_82 (lv_at hl 0 rfl) ?_
        refine lv_if_ge (tgt := 92) hx hb dX5_typedField_84 (by decide) (fun c_50 => absurd c_50 (by decide)) (fun c_50 => ?_)
        refine lv_iload hx hb dX5_typedField_87 (lv_at hl 0 rfl) ?_
        refine lv_goto (tgt := 101) hx hb dX5_typedField_89 (by decide) ?_
        refine lv_istore (lv' := [(8, .int ((-6))), (7, .int ((-6))), (6, .int (nI Y)), (5, .int (nI tx_12T)), (4, .int r_5), (0, .ref (ga G 4)), (1, .int n), (2, .int (nI lv)), (3, .int (nI dp))]) hx hb dX5_typedField_101 hl (by decide) rfl (fun ls hl => ?_)
        refine lv_iload hx hb dX5_typedField_103 (lv_at hl 0 rfl) ?_
        refine lv_if_ge (tgt := 113) hx hb dX5_typedField_105 (by decide) (fun c_51 => absurd c_51 (by decide)) (fun c_51 => ?_)
        refine lv_iload hx hb dX5_typedField_108 (lv_at hl 0 rfl) ?_
        refine lv_goto (tgt := 115) hx hb dX5_typedField_110 (by decide) ?_
        exact c_iret (v := (-6)) hx hb hr hK hP hD hS hC hh hpp ⟨aw_46t, (by rw [ty_49s]; exact US.txb us_41 (by omega) (by omega) (by decide))⟩ dX5_typedField_115 hlocks
      · skip
        subst ty_49v
        have us_52 := US.ty us_41 ty_49 aw_46 (by decide) (by decide)
        obtain ⟨us_52t, us_52v, us_52b, us_52x⟩ := id us_52.1.2.1
        refine lv_istore (lv' := [(7, .int (nI ((tx_12T + 1)))), (6, .int (nI Y)), (5, .int (nI tx_12T)), (4, .int r_5), (0, .ref (ga G 4)), (1, .int n), (2, .int (nI lv)), (3, .int (nI dp))]) hx hb dX5_typedField_80 hl (by decide) rfl (fun ls hl => ?_)
        refine lv_iload hx hb dX5_typedField_82 (lv_at hl 0 rfl) ?_
        refine lv_if_ge (tgt := 92) hx hb dX5_typedField_84 (by decide) (fun c_53 => ?_) (fun c_53 => absurd (Int32.not_lt.mp (nI_n0 (by omega))) c_53)
        refine lv_aload_n hx hb dX5_typedField_92 rfl (lv_at hl 4 rfl) ?_
        refine lv_iload hx hb dX5_typedField_93 (lv_at hl 3 rfl) ?_
        refine lv_iload hx hb dX5_typedField_95 (lv_at hl 0 rfl) ?_
        refine lv_iconst (v := 1) hx hb dX5_typedField_97 (by decide) ?_
        have hC0 := hC
        refine c_ci (c_runV (As := [.int r_5, .int (nI ((tx_12T + 1))), .int 1]) (rest := []) (q0 := 4) (ci := 5) ⟨hx, hb, hml, hown, htu⟩ ((g_under_all 60) l G S_43 (((tx_12T + 1) + 1)) ((tx_12V + 1)) ((tx_12X + ((Y + 1) - (Y)))) Y tx_12Z tx_12q 1 r_5 (nI ((tx_12T + 1))) hC us_52 ((by omega)) kk_47 ((show 1 + 60 = 61 by decide)) ((by omega)) H) (cwV 3 htu hU_X5_150 rfl rfl rfl (by decide +kernel) ⟨show (60 + 70) + 1 ≤ 2 * fu + 141 by omega, show 8 + (8 + 11) + (40 * 60 + 3000) ≤ 60 * fu + 6530 by omega⟩) hP hK hD hC hpp cw_4 rfl rfl hl.1 rfl (lv_room (Nat.le_of_ble_eq_true rfl)) dX5_typedField_98) hS hD hh hpp (fun r_54 S_55 H locs hw_56 hP hD hS hC hh hs_57 hpp => ?_)
        try dsimp only at hw_56
        have aw_58 : AW [6, 7, 8, 9, 16, 14, 10, 11, 12, 13, 17, 18, 25, 26, 35] [8, 9, 10, 12] S_43 S_55 := hw_56.1
        have aw_58t : AW [6, 7, 8, 9, 16, 14, 10, 11, 12, 13, 17, 18, 23, 24, 25, 26, 35] [8, 9, 10, 12, 13] S S_55 := aw_46t.tr (aw_58.mono (by decide) (by decide))
        have kk_59 : kK S_55 15 = 0 := (aw_58.2.1 15 (lt35 (by decide)) (by decide)).2.trans kk_47
        have tj_60 : TJ S_55 N := TJ.aw tj_48 aw_58 (by decide)
        have tx_61 := UX.tx hw_56.2
        refine lv_istore (lv' := [(8, .int r_54), (7, .int (nI ((tx_12T + 1)))), (6, .int (nI Y)), (5, .int (nI tx_12T)), (4, .int r_5), (0, .ref (ga G 4)), (1, .int n), (2, .int (nI lv)), (3, .int (nI dp))]) hx hb dX5_typedField_101 hl (by decide) rfl (fun ls hl => ?_)
        refine lv_iload hx hb dX5_typedField_103 (lv_at hl 0 rfl) ?_
        refine lv_if_ge (tgt := 113) hx hb dX5_typedField_105 (by decide) (fun c_62 => ?_) (fun c_62 => ?_)
        · skip
          obtain ⟨tx_61T, tx_61V, tx_61X, tx_61Z, tx_61q, tx_61u, tx_611, tx_612, tx_613, tx_614⟩ := tx_61.ok c_62
          obtain ⟨tx_61t, tx_61v, tx_61b, tx_61x⟩ := id tx_61u.1.2.1
          refine lv_iload hx hb dX5_typedField_113 (lv_at hl 3 rfl) ?_
          exact c_iret (v := nI tx_12T) hx hb hr hK hP hD hS hC hh hpp ⟨aw_58t, (US.tx tx_61u (by omega) (nI tx_12T))⟩ dX5_typedField_115 hlocks
        · skip
          refine lv_iload hx hb dX5_typedField_108 (lv_at hl 0 rfl) ?_
          refine lv_goto (tgt := 115) hx hb dX5_typedField_110 (by decide) ?_
          exact c_iret (v := r_54) hx hb hr hK hP hD hS hC hh hpp ⟨aw_58t, (TX.bad tx_61 (by omega) (Int32.not_le.mp c_62))⟩ dX5_typedField_115 hlocks
  · skip
    refine lv_iload hx hb dX5_typedField_24 (lv_at hl 0 rfl) ?_
    exact c_iret (v := r_5) hx hb hr hK hP hD hS hC hh hpp ⟨aw_9t, (TX.bad tx_12 (by omega) (Int32.not_le.mp c_13))⟩ dX5_typedField_26 hlocks

set_option maxHeartbeats 4000000 in
set_option maxRecDepth 100000 in
/-- typedLet -/
theorem g_typedLet (l : Launch) (G : cG) (S : cS) (fu : Nat) (T : Nat) (V : Nat) (X : Nat) (Y : Nat) (Z : Nat) (q : Nat) (N : Nat) (dp : Nat) (lv : Nat) (n : Int32) (hC : CL S) (ih : cTypedAt fu) (hU : US S T V X Y Z q) (hq : q ≤ 1500) (h15 : kK S 15 = 0) (hT : TJ S N) (hdp : dp + (fu + 1) = 61) (hlv : lv ≤ dp) (hY2 : Y + (6 * (fu + 1) + 372) ≤ 900) (Hs : Heap) : Met l yX5_typedLet (wC yX5_typedLet cX5_typedLet 5 (some .int)) (cRm S (2 * fu + 141) (60 * fu + 6530)) (cPc G S Hs [.ref (ga G 4), .int n, .int (nI lv), .int (nI dp)]) (cQi G S Hs (fun v u => AW [6, 7, 8, 9, 16, 14, 10, 11, 12, 13, 17, 18, 23, 24, 25, 26, 35] [8, 9, 10, 12, 13] S u ∧ (TX u T V Y q (6 * (fu + 1) + 372) v))) (CC - PT S) (12 * (CC - PT S)) (cA G S Hs.size) := by
  refine Met.ofW (cc := cX5_typedLet) (maxL := 5) (ret := (some .int)) (by decide) rfl ?_
  intro p e s m args below meth c s₁ B hml hv
  obtain ⟨rfl, hsz, hP, hK, hD0, -⟩ := hv
  have hx := B.exec
  have hb := B.bytes
  have hr := B.returns
  have htu : ∀ w ∈ CU, w.before _ s = true := fun w h => atoms_spec (ws := (wC yX5_typedLet cX5_typedLet 5 (some .int))) B.pre w (List.mem_cons_of_mem _ h)
  have hown : s.vm.findClass RX5 = some m.cls := findClass_of_methodNamed B.named
  have hlocks := B.notSynchronized
  subst hsz
  have hD : cD (cA G S s.heap.size) G S := cD_self hD0
  have hl := lv_entry ([.ref (ga G 4), .int n, .int (nI lv), .int (nI dp)]) (n := 5) (Nat.le_of_ble_eq_true rfl)
  rw [lg_entry_eq]
  generalize (lg_sl ([.ref (ga G 4), .int n, .int (nI lv), .int (nI dp)]) ++ List.replicate (5 - (lg_sl ([.ref (ga G 4), .int n, .int (nI lv), .int (nI dp)])).length) Slot.unset).toArray = ls at hl ⊢
  have hl : lv_has ls 5 [(0, .ref (ga G 4)), (1, .int n), (2, .int (nI lv)), (3, .int (nI dp))] := hl
  obtain ⟨H, hHe⟩ : ∃ H : Heap, H = s.heap := ⟨_, rfl⟩
  rw [← hHe] at hP
  have hS : va_S (cA G S s.heap.size) s.heap H [] := by rw [hHe]; exact va_S.rf
  have hh : HS S S := HS.rf
  have hpp : PT S ≤ PT S := Nat.le_refl _
  have hB9 := hC.1
  refine W.heq hHe ?_
  refine c_ent (S := S) ?_
  obtain ⟨tT, tV, tB, tX⟩ := id hU.1.2.1
  refine lv_aload_n hx hb dX5_typedLet_0 rfl (lv_at hl 0 rfl) ?_
  refine lv_aload_n hx hb dX5_typedLet_1 rfl (lv_at hl 0 rfl) ?_
  refine va_get (D := gD G) (ci := 5) (v := .ref (ga G 1)) (C := RX5) (T := TX5) (N := 15) hx hb htu cu_in5 hown hK hP 4 cw_4 rfl 0 (by decide) (htu _ C_60) (fun _ h9 => h9) rfl dX5_typedLet_2 ?_
  refine lv_iload_n hx hb dX5_typedLet_5 rfl (lv_at hl 1 rfl) ?_
  refine lv_iconst (v := 0) hx hb dX5_typedLet_6 (by decide) ?_
  have hC0 := hC
  refine c_ci (c_runV (As := [.int n, .int 0]) (rest := [.ref (ga G 4)]) (q0 := 1) (ci := 3) ⟨hx, hb, hml, hown, htu⟩ (tt_partOf l G S N n 0 hC hT.1 H) (cwV 2 htu hU_X5_144 rfl rfl rfl (by decide +kernel) ⟨show 1 + 1 ≤ 2 * fu + 141 by omega, show 8 + (3 + 11) + 21 ≤ 60 * fu + 6530 by omega⟩) hP hK hD hC hpp cw_1 rfl rfl hl.1 rfl (lv_room (Nat.le_of_ble_eq_true rfl)) dX5_typedLet_7) hS hD hh hpp (fun r_1 S_2 H locs hw_3 hP hD hS hC hh hs_4 hpp => ?_)
  obtain ⟨-, hu9, hw_3⟩ := hw_3
  have hu9 := hu9.symm
  subst hu9
  refine lv_iload_n hx hb dX5_typedLet_10 rfl (lv_at hl 2 rfl) ?_
  refine lv_iconst (v := 1) hx hb dX5_typedLet_11 (by decide) ?_
  refine lv_iadd hx hb dX5_typedLet_12 ?_
  refine m_top (y := nI (lv + 1)) (nI_add lv 1) ?_
  refine lv_iload_n hx hb dX5_typedLet_13 rfl (lv_at hl 3 rfl) ?_
  refine lv_iconst (v := 1) hx hb dX5_typedLet_14 (by decide) ?_
  refine lv_iadd hx hb dX5_typedLet_15 ?_
  refine m_top (y := nI (dp + 1)) (nI_add dp 1) ?_
  have hC0 := hC
  refine c_ci (c_runV (As := [.int r_1, .int (nI (lv + 1)), .int (nI (dp + 1))]) (rest := []) (q0 := 4) (ci := 5) ⟨hx, hb, hml, hown, htu⟩ (ih l G S T V X Y Z q N (dp + 1) (lv + 1) r_1 hC hU ((by omega)) h15 hT ((by omega)) ((by omega)) ((by omega)) H) (cwV 3 htu hU_X5_77 rfl rfl rfl (by decide +kernel) ⟨show (2 * fu + 140) + 1 ≤ 2 * fu + 141 by omega, show 8 + (5 + 11) + (60 * fu + 6500) ≤ 60 * fu + 6530 by omega⟩) hP hK hD hC hpp cw_4 rfl rfl hl.1 rfl (lv_room (Nat.le_of_ble_eq_true rfl)) dX5_typedLet_16) hS hD hh hpp (fun r_5 S_6 H locs hw_7 hP hD hS hC hh hs_8 hpp => ?_)
  try dsimp only at hw_7
  have aw_9 : AW [6, 7, 8, 9, 16, 14, 10, 11, 12, 13, 17, 18, 23, 24, 25, 26, 35] [8, 9, 10, 12, 13] S S_6 := hw_7.1
  have aw_9t : AW [6, 7, 8, 9, 16, 14, 10, 11, 12, 13, 17, 18, 23, 24, 25, 26, 35] [8, 9, 10, 12, 13] S S_6 := AW.rf.tr (aw_9.mono (by decide) (by decide))
  have kk_10 : kK S_6 15 = 0 := (aw_9.2.1 15 (lt35 (by decide)) (by decide)).2.trans h15
  have tj_11 : TJ S_6 N := TJ.aw hT aw_9 (by decide)
  have tx_12 := hw_7.2
  refine lv_istore (lv' := [(4, .int r_5), (0, .ref (ga G 4)), (1, .int n), (2, .int (nI lv)), (3, .int (nI dp))]) hx hb dX5_typedLet_19 hl (by decide) rfl (fun ls hl => ?_)
  refine lv_iload hx hb dX5_typedLet_21 (lv_at hl 0 rfl) ?_
  refine lv_if_ge (tgt := 29) hx hb dX5_typedLet_23 (by decide) (fun c_13 => ?_) (fun c_13 => ?_)
  · skip
    obtain ⟨tx_12T, tx_12V, tx_12X, tx_12Z, tx_12q, tx_12u, tx_121, tx_122, tx_123, tx_124⟩ := tx_12.ok c_13
    obtain ⟨tx_12t, tx_12v, tx_12b, tx_12x⟩ := id tx_12u.1.2.1
    refine lv_aload_n hx hb dX5_typedLet_29 rfl (lv_at hl 1 rfl) ?_
    refine lv_iload_n hx hb dX5_typedLet_30 rfl (lv_at hl 2 rfl) ?_
    refine lv_iload hx hb dX5_typedLet_31 (lv_at hl 0 rfl) ?_
    refine lv_iload_n hx hb dX5_typedLet_33 rfl (lv_at hl 3 rfl) ?_
    have hC0 := hC
    refine c_cv (c_runV (As := [.int n, .int r_5, .int (nI lv)]) (rest := []) (q0 := 4) (ci := 5) ⟨hx, hb, hml, hown, htu⟩ (g_gives l G S_6 n r_5 (nI lv) hC  H) (cwV 3 htu hU_X5_140 rfl rfl rfl (by decide +kernel) ⟨show 1 + 1 ≤ 2 * fu + 141 by omega, show 8 + (4 + 11) + 22 ≤ 60 * fu + 6530 by omega⟩) hP hK hD hC hpp cw_4 rfl rfl hl.1 rfl (lv_room (Nat.le_of_ble_eq_true rfl)) dX5_typedLet_34) hS hD hh hpp (fun S_15 H locs hw_16 hP hD hS hC hh hs_17 hpp => ?_)
    try dsimp only at hw_16
    have aw_18 : AW [23, 24] [] S_6 S_15 := hw_16.1
    have aw_18t : AW [6, 7, 8, 9, 16, 14, 10, 11, 12, 13, 17, 18, 23, 24, 25, 26, 35] [8, 9, 10, 12, 13] S S_15 := aw_9t.tr (aw_18.mono (by decide) (by decide))
    have kk_19 : kK S_15 15 = 0 := (aw_18.2.1 15 (lt35 (by decide)) (by decide)).2.trans kk_10
    have tj_20 : TJ S_15 N := TJ.aw tj_11 aw_18 (by decide)
    have us_21 := US.aw tx_12u aw_18 (by decide) (by decide)
    refine lv_aload_n hx hb dX5_typedLet_37 rfl (lv_at hl 1 rfl) ?_
    refine lv_aload_n hx hb dX5_typedLet_38 rfl (lv_at hl 1 rfl) ?_
    refine va_get (D := gD G) (ci := 5) (v := .ref (ga G 1)) (C := RX5) (T := TX5) (N := 15) hx hb htu cu_in5 hown hK hP 4 cw_4 rfl 0 (by decide) (htu _ C_60) (fun _ h9 => h9) rfl dX5_typedLet_39 ?_
    refine lv_iload_n hx hb dX5_typedLet_42 rfl (lv_at hl 2 rfl) ?_
    refine lv_iconst (v := 1) hx hb dX5_typedLet_43 (by decide) ?_
    have hC0 := hC
    refine c_ci (c_runV (As := [.int n, .int 1]) (rest := [.ref (ga G 4)]) (q0 := 1) (ci := 3) ⟨hx, hb, hml, hown, htu⟩ (tt_partOf l G S_15 N n 1 hC tj_20.1 H) (cwV 2 htu hU_X5_144 rfl rfl rfl (by decide +kernel) ⟨show 1 + 1 ≤ 2 * fu + 141 by omega, show 8 + (3 + 11) + 21 ≤ 60 * fu + 6530 by omega⟩) hP hK hD hC hpp cw_1 rfl rfl hl.1 rfl (lv_room (Nat.le_of_ble_eq_true rfl)) dX5_typedLet_44) hS hD hh hpp (fun r_22 S_23 H locs hw_24 hP hD hS hC hh hs_25 hpp => ?_)
    obtain ⟨-, hu9, hw_24⟩ := hw_24
    have hu9 := hu9.symm
    subst hu9
    refine lv_iload_n hx hb dX5_typedLet_47 rfl (lv_at hl 3 rfl) ?_
    refine lv_iload_n hx hb dX5_typedLet_48 rfl (lv_at hl 4 rfl) ?_
    refine lv_iconst (v := 1) hx hb dX5_typedLet_49 (by decide) ?_
    refine lv_iadd hx hb dX5_typedLet_50 ?_
    refine m_top (y := nI (dp + 1)) (nI_add dp 1) ?_
    have hC0 := hC
    refine c_ci (c_runV (As := [.int r_22, .int (nI lv), .int (nI (dp + 1))]) (rest := []) (q0 := 4) (ci := 5) ⟨hx, hb, hml, hown, htu⟩ (ih l G S_15 tx_12T tx_12V tx_12X Y tx_12Z tx_12q N (dp + 1) lv r_22 hC us_21 ((by omega)) kk_19 tj_20 ((by omega)) ((by omega)) ((by omega)) H) (cwV 3 htu hU_X5_77 rfl rfl rfl (by decide +kernel) ⟨show (2 * fu + 140) + 1 ≤ 2 * fu + 141 by omega, show 8 + (5 + 11) + (60 * fu + 6500) ≤ 60 * fu + 6530 by omega⟩) hP hK hD hC hpp cw_4 rfl rfl hl.1 rfl (lv_room (Nat.le_of_ble_eq_true rfl)) dX5_typedLet_51) hS hD hh hpp (fun r_26 S_27 H locs hw_28 hP hD hS hC hh hs_29 hpp => ?_)
    try dsimp only at hw_28
    have aw_30 : AW [6, 7, 8, 9, 16, 14, 10, 11, 12, 13, 17, 18, 23, 24, 25, 26, 35] [8, 9, 10, 12, 13] S_15 S_27 := hw_28.1
    have aw_30t : AW [6, 7, 8, 9, 16, 14, 10, 11, 12, 13, 17, 18, 23, 24, 25, 26, 35] [8, 9, 10, 12, 13] S S_27 := aw_18t.tr (aw_30.mono (by decide) (by decide))
    have kk_31 : kK S_27 15 = 0 := (aw_30.2.1 15 (lt35 (by decide)) (by decide)).2.trans kk_19
    have tj_32 : TJ S_27 N := TJ.aw tj_20 aw_30 (by decide)
    have tx_33 := hw_28.2
    exact c_iret (v := r_26) hx hb hr hK hP hD hS hC hh hpp ⟨aw_30t, (TX.tail tx_33 (by omega))⟩ dX5_typedLet_54 hlocks
  · skip
    refine lv_iload hx hb dX5_typedLet_26 (lv_at hl 0 rfl) ?_
    exact c_iret (v := r_5) hx hb hr hK hP hD hS hC hh hpp ⟨aw_9t, (TX.bad tx_12 (by omega) (Int32.not_le.mp c_13))⟩ dX5_typedLet_28 hlocks

set_option maxHeartbeats 4000000 in
set_option maxRecDepth 100000 in
/-- typedRec -/
theorem g_typedRec (l : Launch) (G : cG) (S : cS) (fu : Nat) (T : Nat) (V : Nat) (X : Nat) (Y : Nat) (Z : Nat) (q : Nat) (N : Nat) (dp : Nat) (lv : Nat) (n : Int32) (hC : CL S) (ih : cTypedAt fu) (hU : US S T V X Y Z q) (hq : q ≤ 1500) (h15 : kK S 15 = 0) (hT : TJ S N) (hdp : dp + (fu + 1) = 61) (hlv : lv ≤ dp) (hY2 : Y + (6 * (fu + 1) + 372) ≤ 900) (Hs : Heap) : Met l yX5_typedRec (wC yX5_typedRec cX5_typedRec 7 (some .int)) (cRm S (2 * fu + 141) (60 * fu + 6530)) (cPc G S Hs [.ref (ga G 4), .int n, .int (nI lv), .int (nI dp)]) (cQi G S Hs (fun v u => AW [6, 7, 8, 9, 16, 14, 10, 11, 12, 13, 17, 18, 23, 24, 25, 26, 35] [8, 9, 10, 12, 13] S u ∧ (TX u T V Y q (6 * (fu + 1) + 372) v))) (CC - PT S) (12 * (CC - PT S)) (cA G S Hs.size) := by
  refine Met.ofW (cc := cX5_typedRec) (maxL := 7) (ret := (some .int)) (by decide) rfl ?_
  intro p e s m args below meth c s₁ B hml hv
  obtain ⟨rfl, hsz, hP, hK, hD0, -⟩ := hv
  have hx := B.exec
  have hb := B.bytes
  have hr := B.returns
  have htu : ∀ w ∈ CU, w.before _ s = true := fun w h => atoms_spec (ws := (wC yX5_typedRec cX5_typedRec 7 (some .int))) B.pre w (List.mem_cons_of_mem _ h)
  have hown : s.vm.findClass RX5 = some m.cls := findClass_of_methodNamed B.named
  have hlocks := B.notSynchronized
  subst hsz
  have hD : cD (cA G S s.heap.size) G S := cD_self hD0
  have hl := lv_entry ([.ref (ga G 4), .int n, .int (nI lv), .int (nI dp)]) (n := 7) (Nat.le_of_ble_eq_true rfl)
  rw [lg_entry_eq]
  generalize (lg_sl ([.ref (ga G 4), .int n, .int (nI lv), .int (nI dp)]) ++ List.replicate (7 - (lg_sl ([.ref (ga G 4), .int n, .int (nI lv), .int (nI dp)])).length) Slot.unset).toArray = ls at hl ⊢
  have hl : lv_has ls 7 [(0, .ref (ga G 4)), (1, .int n), (2, .int (nI lv)), (3, .int (nI dp))] := hl
  obtain ⟨H, hHe⟩ : ∃ H : Heap, H = s.heap := ⟨_, rfl⟩
  rw [← hHe] at hP
  have hS : va_S (cA G S s.heap.size) s.heap H [] := by rw [hHe]; exact va_S.rf
  have hh : HS S S := HS.rf
  have hpp : PT S ≤ PT S := Nat.le_refl _
  have hB9 := hC.1
  refine W.heq hHe ?_
  refine c_ent (S := S) ?_
  obtain ⟨tT, tV, tB, tX⟩ := id hU.1.2.1
  refine lv_aload_n hx hb dX5_typedRec_0 rfl (lv_at hl 0 rfl) ?_
  refine va_get (D := gD G) (ci := 5) (v := .ref (ga G 2)) (C := RX5) (T := TX5) (N := 15) hx hb htu cu_in5 hown hK hP 4 cw_4 rfl 1 (by decide) (htu _ C_45) (fun _ h9 => h9) rfl dX5_typedRec_1 ?_
  refine lv_iload_n hx hb dX5_typedRec_4 rfl (lv_at hl 2 rfl) ?_
  refine lv_iconst (v := 1) hx hb dX5_typedRec_5 (by decide) ?_
  refine lv_iadd hx hb dX5_typedRec_6 ?_
  refine m_top (y := nI (lv + 1)) (nI_add lv 1) ?_
  have hC0 := hC
  refine c_ci (c_runV (As := [.int (nI (lv + 1))]) (rest := []) (q0 := 2) (ci := 4) ⟨hx, hb, hml, hown, htu⟩ (y_addVariable l G S T V V X Y Z (nI (lv + 1)) hC hU.1 rfl ((Int32.not_lt.mp (nI_n0 (by omega)))) H) (cwV 1 htu hU_X5_137 rfl rfl rfl (by decide +kernel) ⟨show 4 + 1 ≤ 2 * fu + 141 by omega, show 8 + (4 + 11) + 128 ≤ 60 * fu + 6530 by omega⟩) hP hK hD hC hpp cw_2 rfl rfl hl.1 rfl (lv_room (Nat.le_of_ble_eq_true rfl)) dX5_typedRec_7) hS hD hh hpp (fun r_1 S_2 H locs hw_3 hP hD hS hC hh hs_4 hpp => ?_)
  try dsimp only at hw_3
  have aw_5 : AW [6, 7, 8, 9, 16, 14, 35] [] S S_2 := hw_3.1
  have aw_5t : AW [6, 7, 8, 9, 16, 14, 10, 11, 12, 13, 17, 18, 23, 24, 25, 26, 35] [8, 9, 10, 12, 13] S S_2 := AW.rf.tr (aw_5.mono (by decide) (by decide))
  have kk_6 : kK S_2 15 = 0 := (aw_5.2.1 15 (lt35 (by decide)) (by decide)).2.trans h15
  have tj_7 : TJ S_2 N := TJ.aw hT aw_5 (by decide)
  rcases hw_3.2 with ⟨ty_8v, ty_8s⟩ | ⟨ty_8v, ty_8t, ty_8, ty_8o, ty_84, ty_88, ty_8r⟩
  · skip
    subst ty_8v
    refine lv_istore (lv' := [(4, .int ((-6))), (0, .ref (ga G 4)), (1, .int n), (2, .int (nI lv)), (3, .int (nI dp))]) hx hb dX5_typedRec_10 hl (by decide) rfl (fun ls hl => ?_)
    refine lv_iload hx hb dX5_typedRec_12 (lv_at hl 0 rfl) ?_
    refine lv_if_ge (tgt := 20) hx hb dX5_typedRec_14 (by decide) (fun c_9 => absurd c_9 (by decide)) (fun c_9 => ?_)
    refine lv_iload hx hb dX5_typedRec_17 (lv_at hl 0 rfl) ?_
    exact c_iret (v := (-6)) hx hb hr hK hP hD hS hC hh hpp ⟨aw_5t, (by rw [ty_8s]; exact US.txb hU (by omega) (by omega) (by decide))⟩ dX5_typedRec_19 hlocks
  · skip
    subst ty_8v
    obtain ⟨ty_8q, ty_8w, ty_8x, ty_8y⟩ := ty_8r
    have us_10 := US.var hU ty_8 aw_5 (by decide) ty_8w ty_8x ty_8y
    obtain ⟨us_10t, us_10v, us_10b, us_10x⟩ := id us_10.1.2.1
    refine lv_istore (lv' := [(4, .int (nI T)), (0, .ref (ga G 4)), (1, .int n), (2, .int (nI lv)), (3, .int (nI dp))]) hx hb dX5_typedRec_10 hl (by decide) rfl (fun ls hl => ?_)
    refine lv_iload hx hb dX5_typedRec_12 (lv_at hl 0 rfl) ?_
    refine lv_if_ge (tgt := 20) hx hb dX5_typedRec_14 (by decide) (fun c_11 => ?_) (fun c_11 => absurd (Int32.not_lt.mp (nI_n0 (by omega))) c_11)
    refine lv_aload_n hx hb dX5_typedRec_20 rfl (lv_at hl 1 rfl) ?_
    refine lv_iload_n hx hb dX5_typedRec_21 rfl (lv_at hl 2 rfl) ?_
    refine lv_iload hx hb dX5_typedRec_22 (lv_at hl 0 rfl) ?_
    refine lv_iconst (v := (-1)) hx hb dX5_typedRec_24 (by decide) ?_
    have hC0 := hC
    refine c_cv (c_runV (As := [.int n, .int (nI T), .int ((-1))]) (rest := []) (q0 := 4) (ci := 5) ⟨hx, hb, hml, hown, htu⟩ (g_gives l G S_2 n (nI T) ((-1)) hC  H) (cwV 3 htu hU_X5_140 rfl rfl rfl (by decide +kernel) ⟨show 1 + 1 ≤ 2 * fu + 141 by omega, show 8 + (4 + 11) + 22 ≤ 60 * fu + 6530 by omega⟩) hP hK hD hC hpp cw_4 rfl rfl hl.1 rfl (lv_room (Nat.le_of_ble_eq_true rfl)) dX5_typedRec_25) hS hD hh hpp (fun S_13 H locs hw_14 hP hD hS hC hh hs_15 hpp => ?_)
    try dsimp only at hw_14
    have aw_16 : AW [23, 24] [] S_2 S_13 := hw_14.1
    have aw_16t : AW [6, 7, 8, 9, 16, 14, 10, 11, 12, 13, 17, 18, 23, 24, 25, 26, 35] [8, 9, 10, 12, 13] S S_13 := aw_5t.tr (aw_16.mono (by decide) (by decide))
    have kk_17 : kK S_13 15 = 0 := (aw_16.2.1 15 (lt35 (by decide)) (by decide)).2.trans kk_6
    have tj_18 : TJ S_13 N := TJ.aw tj_7 aw_16 (by decide)
    have us_19 := US.aw us_10 aw_16 (by decide) (by decide)
    refine lv_aload_n hx hb dX5_typedRec_28 rfl (lv_at hl 1 rfl) ?_
    refine lv_aload_n hx hb dX5_typedRec_29 rfl (lv_at hl 1 rfl) ?_
    refine va_get (D := gD G) (ci := 5) (v := .ref (ga G 1)) (C := RX5) (T := TX5) (N := 15) hx hb htu cu_in5 hown hK hP 4 cw_4 rfl 0 (by decide) (htu _ C_60) (fun _ h9 => h9) rfl dX5_typedRec_30 ?_
    refine lv_iload_n hx hb dX5_typedRec_33 rfl (lv_at hl 2 rfl) ?_
    refine lv_iconst (v := 0) hx hb dX5_typedRec_34 (by decide) ?_
    have hC0 := hC
    refine c_ci (c_runV (As := [.int n, .int 0]) (rest := [.ref (ga G 4)]) (q0 := 1) (ci := 3) ⟨hx, hb, hml, hown, htu⟩ (tt_partOf l G S_13 N n 0 hC tj_18.1 H) (cwV 2 htu hU_X5_144 rfl rfl rfl (by decide +kernel) ⟨show 1 + 1 ≤ 2 * fu + 141 by omega, show 8 + (3 + 11) + 21 ≤ 60 * fu + 6530 by omega⟩) hP hK hD hC hpp cw_1 rfl rfl hl.1 rfl (lv_room (Nat.le_of_ble_eq_true rfl)) dX5_typedRec_35) hS hD hh hpp (fun r_20 S_21 H locs hw_22 hP hD hS hC hh hs_23 hpp => ?_)
    obtain ⟨-, hu9, hw_22⟩ := hw_22
    have hu9 := hu9.symm
    subst hu9
    refine lv_iload_n hx hb dX5_typedRec_38 rfl (lv_at hl 3 rfl) ?_
    refine lv_iconst (v := 1) hx hb dX5_typedRec_39 (by decide) ?_
    refine lv_iadd hx hb dX5_typedRec_40 ?_
    refine m_top (y := nI (lv + 1)) (nI_add lv 1) ?_
    refine lv_iload_n hx hb dX5_typedRec_41 rfl (lv_at hl 4 rfl) ?_
    refine lv_iconst (v := 1) hx hb dX5_typedRec_42 (by decide) ?_
    refine lv_iadd hx hb dX5_typedRec_43 ?_
    refine m_top (y := nI (dp + 1)) (nI_add dp 1) ?_
    have hC0 := hC
    refine c_ci (c_runV (As := [.int r_20, .int (nI (lv + 1)), .int (nI (dp + 1))]) (rest := []) (q0 := 4) (ci := 5) ⟨hx, hb, hml, hown, htu⟩ (ih l G S_13 ((T + 1)) ((V + 1)) X Y Z q N (dp + 1) (lv + 1) r_20 hC us_19 ((by omega)) kk_17 tj_18 ((by omega)) ((by omega)) ((by omega)) H) (cwV 3 htu hU_X5_77 rfl rfl rfl (by decide +kernel) ⟨show (2 * fu + 140) + 1 ≤ 2 * fu + 141 by omega, show 8 + (5 + 11) + (60 * fu + 6500) ≤ 60 * fu + 6530 by omega⟩) hP hK hD hC hpp cw_4 rfl rfl hl.1 rfl (lv_room (Nat.le_of_ble_eq_true rfl)) dX5_typedRec_44) hS hD hh hpp (fun r_24 S_25 H locs hw_26 hP hD hS hC hh hs_27 hpp => ?_)
    try dsimp only at hw_26
    have aw_28 : AW [6, 7, 8, 9, 16, 14, 10, 11, 12, 13, 17, 18, 23, 24, 25, 26, 35] [8, 9, 10, 12, 13] S_13 S_25 := hw_26.1
    have aw_28t : AW [6, 7, 8, 9, 16, 14, 10, 11, 12, 13, 17, 18, 23, 24, 25, 26, 35] [8, 9, 10, 12, 13] S S_25 := aw_16t.tr (aw_28.mono (by decide) (by decide))
    have kk_29 : kK S_25 15 = 0 := (aw_28.2.1 15 (lt35 (by decide)) (by decide)).2.trans kk_17
    have tj_30 : TJ S_25 N := TJ.aw tj_18 aw_28 (by decide)
    have tx_31 := hw_26.2
    refine lv_istore (lv' := [(5, .int r_24), (4, .int (nI T)), (0, .ref (ga G 4)), (1, .int n), (2, .int (nI lv)), (3, .int (nI dp))]) hx hb dX5_typedRec_47 hl (by decide) rfl (fun ls hl => ?_)
    refine lv_iload hx hb dX5_typedRec_49 (lv_at hl 0 rfl) ?_
    refine lv_if_ge (tgt := 59) hx hb dX5_typedRec_51 (by decide) (fun c_32 => ?_) (fun c_32 => ?_)
    · skip
      obtain ⟨tx_31T, tx_31V, tx_31X, tx_31Z, tx_31q, tx_31u, tx_311, tx_312, tx_313, tx_314⟩ := tx_31.ok c_32
      obtain ⟨tx_31t, tx_31v, tx_31b, tx_31x⟩ := id tx_31u.1.2.1
      refine lv_aload_n hx hb dX5_typedRec_59 rfl (lv_at hl 2 rfl) ?_
      refine lv_iload hx hb dX5_typedRec_60 (lv_at hl 0 rfl) ?_
      refine lv_iload hx hb dX5_typedRec_62 (lv_at hl 1 rfl) ?_
      refine lv_iconst (v := 1) hx hb dX5_typedRec_64 (by decide) ?_
      have hC0 := hC
      refine c_ci (c_runV (As := [.int r_24, .int (nI T), .int 1]) (rest := []) (q0 := 4) (ci := 5) ⟨hx, hb, hml, hown, htu⟩ ((g_under_all 60) l G S_25 tx_31T tx_31V tx_31X Y tx_31Z tx_31q 1 r_24 (nI T) hC tx_31u ((by omega)) kk_29 ((show 1 + 60 = 61 by decide)) ((by omega)) H) (cwV 3 htu hU_X5_150 rfl rfl rfl (by decide +kernel) ⟨show (60 + 70) + 1 ≤ 2 * fu + 141 by omega, show 8 + (8 + 11) + (40 * 60 + 3000) ≤ 60 * fu + 6530 by omega⟩) hP hK hD hC hpp cw_4 rfl rfl hl.1 rfl (lv_room (Nat.le_of_ble_eq_true rfl)) dX5_typedRec_65) hS hD hh hpp (fun r_33 S_34 H locs hw_35 hP hD hS hC hh hs_36 hpp => ?_)
      try dsimp only at hw_35
      have aw_37 : AW [6, 7, 8, 9, 16, 14, 10, 11, 12, 13, 17, 18, 25, 26, 35] [8, 9, 10, 12] S_25 S_34 := hw_35.1
      have aw_37t : AW [6, 7, 8, 9, 16, 14, 10, 11, 12, 13, 17, 18, 23, 24, 25, 26, 35] [8, 9, 10, 12, 13] S S_34 := aw_28t.tr (aw_37.mono (by decide) (by decide))
      have kk_38 : kK S_34 15 = 0 := (aw_37.2.1 15 (lt35 (by decide)) (by decide)).2.trans kk_29
      have tj_39 : TJ S_34 N := TJ.aw tj_30 aw_37 (by decide)
      have tx_40 := UX.tx hw_35.2
      refine lv_istore (lv' := [(6, .int r_33), (5, .int r_24), (4, .int (nI T)), (0, .ref (ga G 4)), (1, .int n), (2, .int (nI lv)), (3, .int (nI dp))]) hx hb dX5_typedRec_68 hl (by decide) rfl (fun ls hl => ?_)
      refine lv_iload hx hb dX5_typedRec_70 (lv_at hl 0 rfl) ?_
      refine lv_if_ge (tgt := 78) hx hb dX5_typedRec_72 (by decide) (fun c_41 => ?_) (fun c_41 => ?_)
      · skip
        obtain ⟨tx_40T, tx_40V, tx_40X, tx_40Z, tx_40q, tx_40u, tx_401, tx_402, tx_403, tx_404⟩ := tx_40.ok c_41
        obtain ⟨tx_40t, tx_40v, tx_40b, tx_40x⟩ := id tx_40u.1.2.1
        refine lv_aload_n hx hb dX5_typedRec_78 rfl (lv_at hl 3 rfl) ?_
        refine lv_iload_n hx hb dX5_typedRec_79 rfl (lv_at hl 4 rfl) ?_
        refine lv_iload hx hb dX5_typedRec_80 (lv_at hl 2 rfl) ?_
        refine lv_iload_n hx hb dX5_typedRec_82 rfl (lv_at hl 5 rfl) ?_
        have hC0 := hC
        refine c_cv (c_runV (As := [.int n, .int (nI T), .int (nI lv)]) (rest := []) (q0 := 4) (ci := 5) ⟨hx, hb, hml, hown, htu⟩ (g_gives l G S_34 n (nI T) (nI lv) hC  H) (cwV 3 htu hU_X5_140 rfl rfl rfl (by decide +kernel) ⟨show 1 + 1 ≤ 2 * fu + 141 by omega, show 8 + (4 + 11) + 22 ≤ 60 * fu + 6530 by omega⟩) hP hK hD hC hpp cw_4 rfl rfl hl.1 rfl (lv_room (Nat.le_of_ble_eq_true rfl)) dX5_typedRec_83) hS hD hh hpp (fun S_43 H locs hw_44 hP hD hS hC hh hs_45 hpp => ?_)
        try dsimp only at hw_44
        have aw_46 : AW [23, 24] [] S_34 S_43 := hw_44.1
        have aw_46t : AW [6, 7, 8, 9, 16, 14, 10, 11, 12, 13, 17, 18, 23, 24, 25, 26, 35] [8, 9, 10, 12, 13] S S_43 := aw_37t.tr (aw_46.mono (by decide) (by decide))
        have kk_47 : kK S_43 15 = 0 := (aw_46.2.1 15 (lt35 (by decide)) (by decide)).2.trans kk_38
        have tj_48 : TJ S_43 N := TJ.aw tj_39 aw_46 (by decide)
        have us_49 := US.aw tx_40u aw_46 (by decide) (by decide)
        refine lv_aload_n hx hb dX5_typedRec_86 rfl (lv_at hl 3 rfl) ?_
        refine lv_aload_n hx hb dX5_typedRec_87 rfl (lv_at hl 3 rfl) ?_
        refine va_get (D := gD G) (ci := 5) (v := .ref (ga G 1)) (C := RX5) (T := TX5) (N := 15) hx hb htu cu_in5 hown hK hP 4 cw_4 rfl 0 (by decide) (htu _ C_60) (fun _ h9 => h9) rfl dX5_typedRec_88 ?_
        refine lv_iload_n hx hb dX5_typedRec_91 rfl (lv_at hl 4 rfl) ?_
        refine lv_iconst (v := 1) hx hb dX5_typedRec_92 (by decide) ?_
        have hC0 := hC
        refine c_ci (c_runV (As := [.int n, .int 1]) (rest := [.ref (ga G 4)]) (q0 := 1) (ci := 3) ⟨hx, hb, hml, hown, htu⟩ (tt_partOf l G S_43 N n 1 hC tj_48.1 H) (cwV 2 htu hU_X5_144 rfl rfl rfl (by decide +kernel) ⟨show 1 + 1 ≤ 2 * fu + 141 by omega, show 8 + (3 + 11) + 21 ≤ 60 * fu + 6530 by omega⟩) hP hK hD hC hpp cw_1 rfl rfl hl.1 rfl (lv_room (Nat.le_of_ble_eq_true rfl)) dX5_typedRec_93) hS hD hh hpp (fun r_50 S_51 H locs hw_52 hP hD hS hC hh hs_53 hpp => ?_)
        obtain ⟨-, hu9, hw_52⟩ := hw_52
        have hu9 := hu9.symm
        subst hu9
        refine lv_iload_n hx hb dX5_typedRec_96 rfl (lv_at hl 5 rfl) ?_
        refine lv_iload_n hx hb dX5_typedRec_97 rfl (lv_at hl 6 rfl) ?_
        refine lv_iconst (v := 1) hx hb dX5_typedRec_98 (by decide) ?_
        refine lv_iadd hx hb dX5_typedRec_99 ?_
        refine m_top (y := nI (dp + 1)) (nI_add dp 1) ?_
        have hC0 := hC
        refine c_ci (c_runV (As := [.int r_50, .int (nI lv), .int (nI (dp + 1))]) (rest := []) (q0 := 4) (ci := 5) ⟨hx, hb, hml, hown, htu⟩ (ih l G S_43 tx_40T tx_40V tx_40X Y tx_40Z tx_40q N (dp + 1) lv r_50 hC us_49 ((by omega)) kk_47 tj_48 ((by omega)) ((by omega)) ((by omega)) H) (cwV 3 htu hU_X5_77 rfl rfl rfl (by decide +kernel) ⟨show (2 * fu + 140) + 1 ≤ 2 * fu + 141 by omega, show 8 + (5 + 11) + (60 * fu + 6500) ≤ 60 * fu + 6530 by omega⟩) hP hK hD hC hpp cw_4 rfl rfl hl.1 rfl (lv_room (Nat.le_of_ble_eq_true rfl)) dX5_typedRec_100) hS hD hh hpp (fun r_54 S_55 H locs hw_56 hP hD hS hC hh hs_57 hpp => ?_)
        try dsimp only at hw_56
        have aw_58 : AW [6, 7, 8, 9, 16, 14, 10, 11, 12, 13, 17, 18, 23, 24, 25, 26, 35] [8, 9, 10, 12, 13] S_43 S_55 := hw_56.1
        have aw_58t : AW [6, 7, 8, 9, 16, 14, 10, 11, 12, 13, 17, 18, 23, 24, 25, 26, 35] [8, 9, 10, 12, 13] S S_55 := aw_46t.tr (aw_58.mono (by decide) (by decide))
        have kk_59 : kK S_55 15 = 0 := (aw_58.2.1 15 (lt35 (by decide)) (by decide)).2.trans kk_47
        have tj_60 : TJ S_55 N := TJ.aw tj_48 aw_58 (by decide)
        have tx_61 := hw_56.2
        exact c_iret (v := r_54) hx hb hr hK hP hD hS hC hh hpp ⟨aw_58t, (TX.tail tx_61 (by omega))⟩ dX5_typedRec_103 hlocks
      · skip
        refine lv_iload hx hb dX5_typedRec_75 (lv_at hl 0 rfl) ?_
        exact c_iret (v := r_33) hx hb hr hK hP hD hS hC hh hpp ⟨aw_37t, (TX.bad tx_40 (by omega) (Int32.not_le.mp c_41))⟩ dX5_typedRec_77 hlocks
    · skip
      refine lv_iload hx hb dX5_typedRec_54 (lv_at hl 0 rfl) ?_
      refine lv_goto (tgt := 68) hx hb dX5_typedRec_56 (by decide) ?_
      refine lv_istore (lv' := [(6, .int r_24), (5, .int r_24), (4, .int (nI T)), (0, .ref (ga G 4)), (1, .int n), (2, .int (nI lv)), (3, .int (nI dp))]) hx hb dX5_typedRec_68 hl (by decide) rfl (fun ls hl => ?_)
      refine lv_iload hx hb dX5_typedRec_70 (lv_at hl 0 rfl) ?_
      refine lv_if_ge (tgt := 78) hx hb dX5_typedRec_72 (by decide) (fun c_62 => absurd c_62 c_32) (fun c_62 => ?_)
      refine lv_iload hx hb dX5_typedRec_75 (lv_at hl 0 rfl) ?_
      exact c_iret (v := r_24) hx hb hr hK hP hD hS hC hh hpp ⟨aw_28t, (TX.bad tx_31 (by omega) (Int32.not_le.mp c_32))⟩ dX5_typedRec_77 hlocks

set_option maxHeartbeats 4000000 in
set_option maxRecDepth 100000 in
/-- typedPick -/
theorem g_typedPick (l : Launch) (G : cG) (S : cS) (fu : Nat) (T : Nat) (V : Nat) (X : Nat) (Y : Nat) (Z : Nat) (q : Nat) (N : Nat) (dp : Nat) (lv : Nat) (n : Int32) (hC : CL S) (ih : cTypedAt fu) (hU : US S T V X Y Z q) (hq : q ≤ 1500) (h15 : kK S 15 = 0) (hT : TJ S N) (hdp : dp + (fu + 1) = 61) (hlv : lv ≤ dp) (hY2 : Y + (6 * (fu + 1) + 372) ≤ 900) (Hs : Heap) : Met l yX5_typedPick (wC yX5_typedPick cX5_typedPick 9 (some .int)) (cRm S (2 * fu + 141) (60 * fu + 6530)) (cPc G S Hs [.ref (ga G 4), .int n, .int (nI lv), .int (nI dp)]) (cQi G S Hs (fun v u => AW [6, 7, 8, 9, 16, 14, 10, 11, 12, 13, 17, 18, 23, 24, 25, 26, 35] [8, 9, 10, 12, 13] S u ∧ (TX u T V Y q (6 * (fu + 1) + 372) v))) (CC - PT S) (12 * (CC - PT S)) (cA G S Hs.size) := by
  refine Met.ofW (cc := cX5_typedPick) (maxL := 9) (ret := (some .int)) (by decide) rfl ?_
  intro p e s m args below meth c s₁ B hml hv
  obtain ⟨rfl, hsz, hP, hK, hD0, -⟩ := hv
  have hx := B.exec
  have hb := B.bytes
  have hr := B.returns
  have htu : ∀ w ∈ CU, w.before _ s = true := fun w h => atoms_spec (ws := (wC yX5_typedPick cX5_typedPick 9 (some .int))) B.pre w (List.mem_cons_of_mem _ h)
  have hown : s.vm.findClass RX5 = some m.cls := findClass_of_methodNamed B.named
  have hlocks := B.notSynchronized
  subst hsz
  have hD : cD (cA G S s.heap.size) G S := cD_self hD0
  have hl := lv_entry ([.ref (ga G 4), .int n, .int (nI lv), .int (nI dp)]) (n := 9) (Nat.le_of_ble_eq_true rfl)
  rw [lg_entry_eq]
  generalize (lg_sl ([.ref (ga G 4), .int n, .int (nI lv), .int (nI dp)]) ++ List.replicate (9 - (lg_sl ([.ref (ga G 4), .int n, .int (nI lv), .int (nI dp)])).length) Slot.unset).toArray = ls at hl ⊢
  have hl : lv_has ls 9 [(0, .ref (ga G 4)), (1, .int n), (2, .int (nI lv)), (3, .int (nI dp))] := hl
  obtain ⟨H, hHe⟩ : ∃ H : Heap, H = s.heap := ⟨_, rfl⟩
  rw [← hHe] at hP
  have hS : va_S (cA G S s.heap.size) s.heap H [] := by rw [hHe]; exact va_S.rf
  have hh : HS S S := HS.rf
  have hpp : PT S ≤ PT S := Nat.le_refl _
  have hB9 := hC.1
  refine W.heq hHe ?_
  refine c_ent (S := S) ?_
  obtain ⟨tT, tV, tB, tX⟩ := id hU.1.2.1
  refine lv_aload_n hx hb dX5_typedPick_0 rfl (lv_at hl 0 rfl) ?_
  refine lv_aload_n hx hb dX5_typedPick_1 rfl (lv_at hl 0 rfl) ?_
  refine va_get (D := gD G) (ci := 5) (v := .ref (ga G 1)) (C := RX5) (T := TX5) (N := 15) hx hb htu cu_in5 hown hK hP 4 cw_4 rfl 0 (by decide) (htu _ C_60) (fun _ h9 => h9) rfl dX5_typedPick_2 ?_
  refine lv_iload_n hx hb dX5_typedPick_5 rfl (lv_at hl 1 rfl) ?_
  refine lv_iconst (v := 0) hx hb dX5_typedPick_6 (by decide) ?_
  have hC0 := hC
  refine c_ci (c_runV (As := [.int n, .int 0]) (rest := [.ref (ga G 4)]) (q0 := 1) (ci := 3) ⟨hx, hb, hml, hown, htu⟩ (tt_partOf l G S N n 0 hC hT.1 H) (cwV 2 htu hU_X5_144 rfl rfl rfl (by decide +kernel) ⟨show 1 + 1 ≤ 2 * fu + 141 by omega, show 8 + (3 + 11) + 21 ≤ 60 * fu + 6530 by omega⟩) hP hK hD hC hpp cw_1 rfl rfl hl.1 rfl (lv_room (Nat.le_of_ble_eq_true rfl)) dX5_typedPick_7) hS hD hh hpp (fun r_1 S_2 H locs hw_3 hP hD hS hC hh hs_4 hpp => ?_)
  obtain ⟨-, hu9, hw_3⟩ := hw_3
  have hu9 := hu9.symm
  subst hu9
  refine lv_iload_n hx hb dX5_typedPick_10 rfl (lv_at hl 2 rfl) ?_
  refine lv_iload_n hx hb dX5_typedPick_11 rfl (lv_at hl 3 rfl) ?_
  refine lv_iconst (v := 1) hx hb dX5_typedPick_12 (by decide) ?_
  refine lv_iadd hx hb dX5_typedPick_13 ?_
  refine m_top (y := nI (dp + 1)) (nI_add dp 1) ?_
  have hC0 := hC
  refine c_ci (c_runV (As := [.int r_1, .int (nI lv), .int (nI (dp + 1))]) (rest := []) (q0 := 4) (ci := 5) ⟨hx, hb, hml, hown, htu⟩ (ih l G S T V X Y Z q N (dp + 1) lv r_1 hC hU ((by omega)) h15 hT ((by omega)) ((by omega)) ((by omega)) H) (cwV 3 htu hU_X5_77 rfl rfl rfl (by decide +kernel) ⟨show (2 * fu + 140) + 1 ≤ 2 * fu + 141 by omega, show 8 + (5 + 11) + (60 * fu + 6500) ≤ 60 * fu + 6530 by omega⟩) hP hK hD hC hpp cw_4 rfl rfl hl.1 rfl (lv_room (Nat.le_of_ble_eq_true rfl)) dX5_typedPick_14) hS hD hh hpp (fun r_5 S_6 H locs hw_7 hP hD hS hC hh hs_8 hpp => ?_)
  try dsimp only at hw_7
  have aw_9 : AW [6, 7, 8, 9, 16, 14, 10, 11, 12, 13, 17, 18, 23, 24, 25, 26, 35] [8, 9, 10, 12, 13] S S_6 := hw_7.1
  have aw_9t : AW [6, 7, 8, 9, 16, 14, 10, 11, 12, 13, 17, 18, 23, 24, 25, 26, 35] [8, 9, 10, 12, 13] S S_6 := AW.rf.tr (aw_9.mono (by decide) (by decide))
  have kk_10 : kK S_6 15 = 0 := (aw_9.2.1 15 (lt35 (by decide)) (by decide)).2.trans h15
  have tj_11 : TJ S_6 N := TJ.aw hT aw_9 (by decide)
  have tx_12 := hw_7.2
  refine lv_istore (lv' := [(4, .int r_5), (0, .ref (ga G 4)), (1, .int n), (2, .int (nI lv)), (3, .int (nI dp))]) hx hb dX5_typedPick_17 hl (by decide) rfl (fun ls hl => ?_)
  refine lv_iload hx hb dX5_typedPick_19 (lv_at hl 0 rfl) ?_
  refine lv_if_ge (tgt := 29) hx hb dX5_typedPick_21 (by decide) (fun c_13 => ?_) (fun c_13 => ?_)
  · skip
    obtain ⟨tx_12T, tx_12V, tx_12X, tx_12Z, tx_12q, tx_12u, tx_121, tx_122, tx_123, tx_124⟩ := tx_12.ok c_13
    obtain ⟨tx_12t, tx_12v, tx_12b, tx_12x⟩ := id tx_12u.1.2.1
    refine lv_aload_n hx hb dX5_typedPick_29 rfl (lv_at hl 1 rfl) ?_
    refine lv_iload hx hb dX5_typedPick_30 (lv_at hl 0 rfl) ?_
    refine lv_iconst (v := 1) hx hb dX5_typedPick_32 (by decide) ?_
    refine lv_iconst (v := 1) hx hb dX5_typedPick_33 (by decide) ?_
    have hC0 := hC
    refine c_ci (c_runV (As := [.int r_5, .int 1, .int 1]) (rest := []) (q0 := 4) (ci := 5) ⟨hx, hb, hml, hown, htu⟩ ((g_under_all 60) l G S_6 tx_12T tx_12V tx_12X Y tx_12Z tx_12q 1 r_5 1 hC tx_12u ((by omega)) kk_10 ((show 1 + 60 = 61 by decide)) ((by omega)) H) (cwV 3 htu hU_X5_150 rfl rfl rfl (by decide +kernel) ⟨show (60 + 70) + 1 ≤ 2 * fu + 141 by omega, show 8 + (8 + 11) + (40 * 60 + 3000) ≤ 60 * fu + 6530 by omega⟩) hP hK hD hC hpp cw_4 rfl rfl hl.1 rfl (lv_room (Nat.le_of_ble_eq_true rfl)) dX5_typedPick_34) hS hD hh hpp (fun r_14 S_15 H locs hw_16 hP hD hS hC hh hs_17 hpp => ?_)
    try dsimp only at hw_16
    have aw_18 : AW [6, 7, 8, 9, 16, 14, 10, 11, 12, 13, 17, 18, 25, 26, 35] [8, 9, 10, 12] S_6 S_15 := hw_16.1
    have aw_18t : AW [6, 7, 8, 9, 16, 14, 10, 11, 12, 13, 17, 18, 23, 24, 25, 26, 35] [8, 9, 10, 12, 13] S S_15 := aw_9t.tr (aw_18.mono (by decide) (by decide))
    have kk_19 : kK S_15 15 = 0 := (aw_18.2.1 15 (lt35 (by decide)) (by decide)).2.trans kk_10
    have tj_20 : TJ S_15 N := TJ.aw tj_11 aw_18 (by decide)
    have tx_21 := UX.tx hw_16.2
    refine lv_istore (lv' := [(5, .int r_14), (4, .int r_5), (0, .ref (ga G 4)), (1, .int n), (2, .int (nI lv)), (3, .int (nI dp))]) hx hb dX5_typedPick_37 hl (by decide) rfl (fun ls hl => ?_)
    refine lv_iload hx hb dX5_typedPick_39 (lv_at hl 0 rfl) ?_
    refine lv_if_ge (tgt := 47) hx hb dX5_typedPick_41 (by decide) (fun c_22 => ?_) (fun c_22 => ?_)
    · skip
      obtain ⟨tx_21T, tx_21V, tx_21X, tx_21Z, tx_21q, tx_21u, tx_211, tx_212, tx_213, tx_214⟩ := tx_21.ok c_22
      obtain ⟨tx_21t, tx_21v, tx_21b, tx_21x⟩ := id tx_21u.1.2.1
      refine lv_aload_n hx hb dX5_typedPick_47 rfl (lv_at hl 2 rfl) ?_
      refine va_get (D := gD G) (ci := 5) (v := .ref (ga G 2)) (C := RX5) (T := TX5) (N := 15) hx hb htu cu_in5 hown hK hP 4 cw_4 rfl 1 (by decide) (htu _ C_45) (fun _ h9 => h9) rfl dX5_typedPick_48 ?_
      refine lv_iload_n hx hb dX5_typedPick_51 rfl (lv_at hl 4 rfl) ?_
      have hC0 := hC
      refine c_ci (c_runV (As := [.int (nI lv)]) (rest := []) (q0 := 2) (ci := 4) ⟨hx, hb, hml, hown, htu⟩ (y_addVariable l G S_15 tx_21T tx_21V tx_21V tx_21X Y tx_21Z (nI lv) hC tx_21u.1 rfl ((Int32.not_lt.mp (nI_n0 (by omega)))) H) (cwV 1 htu hU_X5_137 rfl rfl rfl (by decide +kernel) ⟨show 4 + 1 ≤ 2 * fu + 141 by omega, show 8 + (4 + 11) + 128 ≤ 60 * fu + 6530 by omega⟩) hP hK hD hC hpp cw_2 rfl rfl hl.1 rfl (lv_room (Nat.le_of_ble_eq_true rfl)) dX5_typedPick_52) hS hD hh hpp (fun r_23 S_24 H locs hw_25 hP hD hS hC hh hs_26 hpp => ?_)
      try dsimp only at hw_25
      have aw_27 : AW [6, 7, 8, 9, 16, 14, 35] [] S_15 S_24 := hw_25.1
      have aw_27t : AW [6, 7, 8, 9, 16, 14, 10, 11, 12, 13, 17, 18, 23, 24, 25, 26, 35] [8, 9, 10, 12, 13] S S_24 := aw_18t.tr (aw_27.mono (by decide) (by decide))
      have kk_28 : kK S_24 15 = 0 := (aw_27.2.1 15 (lt35 (by decide)) (by decide)).2.trans kk_19
      have tj_29 : TJ S_24 N := TJ.aw tj_20 aw_27 (by decide)
      rcases hw_25.2 with ⟨ty_30v, ty_30s⟩ | ⟨ty_30v, ty_30t, ty_30, ty_30o, ty_304, ty_308, ty_30r⟩
      · skip
        subst ty_30v
        refine lv_istore (lv' := [(6, .int ((-6))), (5, .int r_14), (4, .int r_5), (0, .ref (ga G 4)), (1, .int n), (2, .int (nI lv)), (3, .int (nI dp))]) hx hb dX5_typedPick_55 hl (by decide) rfl (fun ls hl => ?_)
        refine lv_iload hx hb dX5_typedPick_57 (lv_at hl 0 rfl) ?_
        refine lv_if_ge (tgt := 65) hx hb dX5_typedPick_59 (by decide) (fun c_31 => absurd c_31 (by decide)) (fun c_31 => ?_)
        refine lv_iload hx hb dX5_typedPick_62 (lv_at hl 0 rfl) ?_
        exact c_iret (v := (-6)) hx hb hr hK hP hD hS hC hh hpp ⟨aw_27t, (by rw [ty_30s]; exact US.txb tx_21u (by omega) (by omega) (by decide))⟩ dX5_typedPick_64 hlocks
      · skip
        subst ty_30v
        obtain ⟨ty_30q, ty_30w, ty_30x, ty_30y⟩ := ty_30r
        have us_32 := US.var tx_21u ty_30 aw_27 (by decide) ty_30w ty_30x ty_30y
        obtain ⟨us_32t, us_32v, us_32b, us_32x⟩ := id us_32.1.2.1
        refine lv_istore (lv' := [(6, .int (nI tx_21T)), (5, .int r_14), (4, .int r_5), (0, .ref (ga G 4)), (1, .int n), (2, .int (nI lv)), (3, .int (nI dp))]) hx hb dX5_typedPick_55 hl (by decide) rfl (fun ls hl => ?_)
        refine lv_iload hx hb dX5_typedPick_57 (lv_at hl 0 rfl) ?_
        refine lv_if_ge (tgt := 65) hx hb dX5_typedPick_59 (by decide) (fun c_33 => ?_) (fun c_33 => absurd (Int32.not_lt.mp (nI_n0 (by omega))) c_33)
        refine lv_iconst (v := 1) hx hb dX5_typedPick_65 (by decide) ?_
        refine lv_istore (lv' := [(7, .int 1), (6, .int (nI tx_21T)), (5, .int r_14), (4, .int r_5), (0, .ref (ga G 4)), (1, .int n), (2, .int (nI lv)), (3, .int (nI dp))]) hx hb dX5_typedPick_66 hl (by decide) rfl (fun ls hl => ?_)
        refine lv_iload hx hb dX5_typedPick_68 (lv_at hl 0 rfl) ?_
        refine lv_iconst (v := 2) hx hb dX5_typedPick_70 (by decide) ?_
        refine lv_icmp_gt (tgt := 129) hx hb dX5_typedPick_71 (by decide) (fun c_34 => absurd c_34 (by decide)) (fun c_34 => ?_)
        refine lv_aload_n hx hb dX5_typedPick_74 rfl (lv_at hl 4 rfl) ?_
        refine lv_aload_n hx hb dX5_typedPick_75 rfl (lv_at hl 4 rfl) ?_
        refine va_get (D := gD G) (ci := 5) (v := .ref (ga G 1)) (C := RX5) (T := TX5) (N := 15) hx hb htu cu_in5 hown hK hP 4 cw_4 rfl 0 (by decide) (htu _ C_60) (fun _ h9 => h9) rfl dX5_typedPick_76 ?_
        refine lv_iload_n hx hb dX5_typedPick_79 rfl (lv_at hl 5 rfl) ?_
        refine lv_iload hx hb dX5_typedPick_80 (lv_at hl 0 rfl) ?_
        have hC0 := hC
        refine c_ci (c_runV (As := [.int n, .int 1]) (rest := [.ref (ga G 4)]) (q0 := 1) (ci := 3) ⟨hx, hb, hml, hown, htu⟩ (tt_partOf l G S_24 N n 1 hC tj_29.1 H) (cwV 2 htu hU_X5_144 rfl rfl rfl (by decide +kernel) ⟨show 1 + 1 ≤ 2 * fu + 141 by omega, show 8 + (3 + 11) + 21 ≤ 60 * fu + 6530 by omega⟩) hP hK hD hC hpp cw_1 rfl rfl hl.1 rfl (lv_room (Nat.le_of_ble_eq_true rfl)) dX5_typedPick_82) hS hD hh hpp (fun r_35 S_36 H locs hw_37 hP hD hS hC hh hs_38 hpp => ?_)
        obtain ⟨-, hu9, hw_37⟩ := hw_37
        have hu9 := hu9.symm
        subst hu9
        refine lv_iload_n hx hb dX5_typedPick_85 rfl (lv_at hl 6 rfl) ?_
        refine lv_iload_n hx hb dX5_typedPick_86 rfl (lv_at hl 7 rfl) ?_
        refine lv_iconst (v := 1) hx hb dX5_typedPick_87 (by decide) ?_
        refine lv_iadd hx hb dX5_typedPick_88 ?_
        refine m_top (y := nI (dp + 1)) (nI_add dp 1) ?_
        have hC0 := hC
        refine c_ci (c_runV (As := [.int r_35, .int (nI lv), .int (nI (dp + 1))]) (rest := []) (q0 := 4) (ci := 5) ⟨hx, hb, hml, hown, htu⟩ (ih l G S_24 ((tx_21T + 1)) ((tx_21V + 1)) tx_21X Y tx_21Z tx_21q N (dp + 1) lv r_35 hC us_32 ((by omega)) kk_28 tj_29 ((by omega)) ((by omega)) ((by omega)) H) (cwV 3 htu hU_X5_77 rfl rfl rfl (by decide +kernel) ⟨show (2 * fu + 140) + 1 ≤ 2 * fu + 141 by omega, show 8 + (5 + 11) + (60 * fu + 6500) ≤ 60 * fu + 6530 by omega⟩) hP hK hD hC hpp cw_4 rfl rfl hl.1 rfl (lv_room (Nat.le_of_ble_eq_true rfl)) dX5_typedPick_89) hS hD hh hpp (fun r_39 S_40 H locs hw_41 hP hD hS hC hh hs_42 hpp => ?_)
        try dsimp only at hw_41
        have aw_43 : AW [6, 7, 8, 9, 16, 14, 10, 11, 12, 13, 17, 18, 23, 24, 25, 26, 35] [8, 9, 10, 12, 13] S_24 S_40 := hw_41.1
        have aw_43t : AW [6, 7, 8, 9, 16, 14, 10, 11, 12, 13, 17, 18, 23, 24, 25, 26, 35] [8, 9, 10, 12, 13] S S_40 := aw_27t.tr (aw_43.mono (by decide) (by decide))
        have kk_44 : kK S_40 15 = 0 := (aw_43.2.1 15 (lt35 (by decide)) (by decide)).2.trans kk_28
        have tj_45 : TJ S_40 N := TJ.aw tj_29 aw_43 (by decide)
        have tx_46 := hw_41.2
        refine lv_istore (lv' := [(8, .int r_39), (7, .int 1), (6, .int (nI tx_21T)), (5, .int r_14), (4, .int r_5), (0, .ref (ga G 4)), (1, .int n), (2, .int (nI lv)), (3, .int (nI dp))]) hx hb dX5_typedPick_92 hl (by decide) rfl (fun ls hl => ?_)
        refine lv_iload hx hb dX5_typedPick_94 (lv_at hl 0 rfl) ?_
        refine lv_if_ge (tgt := 104) hx hb dX5_typedPick_96 (by decide) (fun c_47 => ?_) (fun c_47 => ?_)
        · skip
          obtain ⟨tx_46T, tx_46V, tx_46X, tx_46Z, tx_46q, tx_46u, tx_461, tx_462, tx_463, tx_464⟩ := tx_46.ok c_47
          obtain ⟨tx_46t, tx_46v, tx_46b, tx_46x⟩ := id tx_46u.1.2.1
          refine lv_aload_n hx hb dX5_typedPick_104 rfl (lv_at hl 5 rfl) ?_
          refine lv_iload hx hb dX5_typedPick_105 (lv_at hl 0 rfl) ?_
          refine lv_iload hx hb dX5_typedPick_107 (lv_at hl 2 rfl) ?_
          refine lv_iconst (v := 1) hx hb dX5_typedPick_109 (by decide) ?_
          have hC0 := hC
          refine c_ci (c_runV (As := [.int r_39, .int (nI tx_21T), .int 1]) (rest := []) (q0 := 4) (ci := 5) ⟨hx, hb, hml, hown, htu⟩ ((g_under_all 60) l G S_40 tx_46T tx_46V tx_46X Y tx_46Z tx_46q 1 r_39 (nI tx_21T) hC tx_46u ((by omega)) kk_44 ((show 1 + 60 = 61 by decide)) ((by omega)) H) (cwV 3 htu hU_X5_150 rfl rfl rfl (by decide +kernel) ⟨show (60 + 70) + 1 ≤ 2 * fu + 141 by omega, show 8 + (8 + 11) + (40 * 60 + 3000) ≤ 60 * fu + 6530 by omega⟩) hP hK hD hC hpp cw_4 rfl rfl hl.1 rfl (lv_room (Nat.le_of_ble_eq_true rfl)) dX5_typedPick_110) hS hD hh hpp (fun r_48 S_49 H locs hw_50 hP hD hS hC hh hs_51 hpp => ?_)
          try dsimp only at hw_50
          have aw_52 : AW [6, 7, 8, 9, 16, 14, 10, 11, 12, 13, 17, 18, 25, 26, 35] [8, 9, 10, 12] S_40 S_49 := hw_50.1
          have aw_52t : AW [6, 7, 8, 9, 16, 14, 10, 11, 12, 13, 17, 18, 23, 24, 25, 26, 35] [8, 9, 10, 12, 13] S S_49 := aw_43t.tr (aw_52.mono (by decide) (by decide))
          have kk_53 : kK S_49 15 = 0 := (aw_52.2.1 15 (lt35 (by decide)) (by decide)).2.trans kk_44
          have tj_54 : TJ S_49 N := TJ.aw tj_45 aw_52 (by decide)
          have tx_55 := UX.tx hw_50.2
          refine lv_istore (lv' := [(5, .int r_48), (8, .int r_39), (7, .int 1), (6, .int (nI tx_21T)), (4, .int r_5), (0, .ref (ga G 4)), (1, .int n), (2, .int (nI lv)), (3, .int (nI dp))]) hx hb dX5_typedPick_113 hl (by decide) rfl (fun ls hl => ?_)
          refine lv_iload hx hb dX5_typedPick_115 (lv_at hl 0 rfl) ?_
          refine lv_if_ge (tgt := 123) hx hb dX5_typedPick_117 (by decide) (fun c_56 => ?_) (fun c_56 => ?_)
          · skip
            obtain ⟨tx_55T, tx_55V, tx_55X, tx_55Z, tx_55q, tx_55u, tx_551, tx_552, tx_553, tx_554⟩ := tx_55.ok c_56
            obtain ⟨tx_55t, tx_55v, tx_55b, tx_55x⟩ := id tx_55u.1.2.1
            refine lv_iinc (v := 2) (lv' := [(7, .int 2), (5, .int r_48), (8, .int r_39), (6, .int (nI tx_21T)), (4, .int r_5), (0, .ref (ga G 4)), (1, .int n), (2, .int (nI lv)), (3, .int (nI dp))]) hx hb dX5_typedPick_123 hl (k := 2) rfl (by decide) (by decide) rfl (fun ls hl => ?_)
            refine lv_goto (tgt := 68) hx hb dX5_typedPick_126 (by decide) ?_
            refine lv_iload hx hb dX5_typedPick_68 (lv_at hl 0 rfl) ?_
            refine lv_iconst (v := 2) hx hb dX5_typedPick_70 (by decide) ?_
            refine lv_icmp_gt (tgt := 129) hx hb dX5_typedPick_71 (by decide) (fun c_57 => absurd c_57 (by decide)) (fun c_57 => ?_)
            refine lv_aload_n hx hb dX5_typedPick_74 rfl (lv_at hl 5 rfl) ?_
            refine lv_aload_n hx hb dX5_typedPick_75 rfl (lv_at hl 5 rfl) ?_
            refine va_get (D := gD G) (ci := 5) (v := .ref (ga G 1)) (C := RX5) (T := TX5) (N := 15) hx hb htu cu_in5 hown hK hP 4 cw_4 rfl 0 (by decide) (htu _ C_60) (fun _ h9 => h9) rfl dX5_typedPick_76 ?_
            refine lv_iload_n hx hb dX5_typedPick_79 rfl (lv_at hl 6 rfl) ?_
            refine lv_iload hx hb dX5_typedPick_80 (lv_at hl 0 rfl) ?_
            have hC0 := hC
            refine c_ci (c_runV (As := [.int n, .int 2]) (rest := [.ref (ga G 4)]) (q0 := 1) (ci := 3) ⟨hx, hb, hml, hown, htu⟩ (tt_partOf l G S_49 N n 2 hC tj_54.1 H) (cwV 2 htu hU_X5_144 rfl rfl rfl (by decide +kernel) ⟨show 1 + 1 ≤ 2 * fu + 141 by omega, show 8 + (3 + 11) + 21 ≤ 60 * fu + 6530 by omega⟩) hP hK hD hC hpp cw_1 rfl rfl hl.1 rfl (lv_room (Nat.le_of_ble_eq_true rfl)) dX5_typedPick_82) hS hD hh hpp (fun r_58 S_59 H locs hw_60 hP hD hS hC hh hs_61 hpp => ?_)
            obtain ⟨-, hu9, hw_60⟩ := hw_60
            have hu9 := hu9.symm
            subst hu9
            refine lv_iload_n hx hb dX5_typedPick_85 rfl (lv_at hl 7 rfl) ?_
            refine lv_iload_n hx hb dX5_typedPick_86 rfl (lv_at hl 8 rfl) ?_
            refine lv_iconst (v := 1) hx hb dX5_typedPick_87 (by decide) ?_
            refine lv_iadd hx hb dX5_typedPick_88 ?_
            refine m_top (y := nI (dp + 1)) (nI_add dp 1) ?_
            have hC0 := hC
            refine c_ci (c_runV (As := [.int r_58, .int (nI lv), .int (nI (dp + 1))]) (rest := []) (q0 := 4) (ci := 5) ⟨hx, hb, hml, hown, htu⟩ (ih l G S_49 tx_55T tx_55V tx_55X Y tx_55Z tx_55q N (dp + 1) lv r_58 hC tx_55u ((by omega)) kk_53 tj_54 ((by omega)) ((by omega)) ((by omega)) H) (cwV 3 htu hU_X5_77 rfl rfl rfl (by decide +kernel) ⟨show (2 * fu + 140) + 1 ≤ 2 * fu + 141 by omega, show 8 + (5 + 11) + (60 * fu + 6500) ≤ 60 * fu + 6530 by omega⟩) hP hK hD hC hpp cw_4 rfl rfl hl.1 rfl (lv_room (Nat.le_of_ble_eq_true rfl)) dX5_typedPick_89) hS hD hh hpp (fun r_62 S_63 H locs hw_64 hP hD hS hC hh hs_65 hpp => ?_)
            try dsimp only at hw_64
            have aw_66 : AW [6, 7, 8, 9, 16, 14, 10, 11, 12, 13, 17, 18, 23, 24, 25, 26, 35] [8, 9, 10, 12, 13] S_49 S_63 := hw_64.1
            have aw_66t : AW [6, 7, 8, 9, 16, 14, 10, 11, 12, 13, 17, 18, 23, 24, 25, 26, 35] [8, 9, 10, 12, 13] S S_63 := aw_52t.tr (aw_66.mono (by decide) (by decide))
            have kk_67 : kK S_63 15 = 0 := (aw_66.2.1 15 (lt35 (by decide)) (by decide)).2.trans kk_53
            have tj_68 : TJ S_63 N := TJ.aw tj_54 aw_66 (by decide)
            have tx_69 := hw_64.2
            refine lv_istore (lv' := [(8, .int r_62), (7, .int 2), (5, .int r_48), (6, .int (nI tx_21T)), (4, .int r_5), (0, .ref (ga G 4)), (1, .int n), (2, .int (nI lv)), (3, .int (nI dp))]) hx hb dX5_typedPick_92 hl (by decide) rfl (fun ls hl => ?_)
            refine lv_iload hx hb dX5_typedPick_94 (lv_at hl 0 rfl) ?_
            refine lv_if_ge (tgt := 104) hx hb dX5_typedPick_96 (by decide) (fun c_70 => ?_) (fun c_70 => ?_)
            · skip
              obtain ⟨tx_69T, tx_69V, tx_69X, tx_69Z, tx_69q, tx_69u, tx_691, tx_692, tx_693, tx_694⟩ := tx_69.ok c_70
              obtain ⟨tx_69t, tx_69v, tx_69b, tx_69x⟩ := id tx_69u.1.2.1
              refine lv_aload_n hx hb dX5_typedPick_104 rfl (lv_at hl 5 rfl) ?_
              refine lv_iload hx hb dX5_typedPick_105 (lv_at hl 0 rfl) ?_
              refine lv_iload hx hb dX5_typedPick_107 (lv_at hl 3 rfl) ?_
              refine lv_iconst (v := 1) hx hb dX5_typedPick_109 (by decide) ?_
              have hC0 := hC
              refine c_ci (c_runV (As := [.int r_62, .int (nI tx_21T), .int 1]) (rest := []) (q0 := 4) (ci := 5) ⟨hx, hb, hml, hown, htu⟩ ((g_under_all 60) l G S_63 tx_69T tx_69V tx_69X Y tx_69Z tx_69q 1 r_62 (nI tx_21T) hC tx_69u ((by omega)) kk_67 ((show 1 + 60 = 61 by decide)) ((by omega)) H) (cwV 3 htu hU_X5_150 rfl rfl rfl (by decide +kernel) ⟨show (60 + 70) + 1 ≤ 2 * fu + 141 by omega, show 8 + (8 + 11) + (40 * 60 + 3000) ≤ 60 * fu + 6530 by omega⟩) hP hK hD hC hpp cw_4 rfl rfl hl.1 rfl (lv_room (Nat.le_of_ble_eq_true rfl)) dX5_typedPick_110) hS hD hh hpp (fun r_71 S_72 H locs hw_73 hP hD hS hC hh hs_74 hpp => ?_)
              try dsimp only at hw_73
              have aw_75 : AW [6, 7, 8, 9, 16, 14, 10, 11, 12, 13, 17, 18, 25, 26, 35] [8, 9, 10, 12] S_63 S_72 := hw_73.1
              have aw_75t : AW [6, 7, 8, 9, 16, 14, 10, 11, 12, 13, 17, 18, 23, 24, 25, 26, 35] [8, 9, 10, 12, 13] S S_72 := aw_66t.tr (aw_75.mono (by decide) (by decide))
              have kk_76 : kK S_72 15 = 0 := (aw_75.2.1 15 (lt35 (by decide)) (by decide)).2.trans kk_67
              have tj_77 : TJ S_72 N := TJ.aw tj_68 aw_75 (by decide)
              have tx_78 := UX.tx hw_73.2
              refine lv_istore (lv' := [(5, .int r_71), (8, .int r_62), (7, .int 2), (6, .int (nI tx_21T)), (4, .int r_5), (0, .ref (ga G 4)), (1, .int n), (2, .int (nI lv)), (3, .int (nI dp))]) hx hb dX5_typedPick_113 hl (by decide) rfl (fun ls hl => ?_)
              refine lv_iload hx hb dX5_typedPick_115 (lv_at hl 0 rfl) ?_
              refine lv_if_ge (tgt := 123) hx hb dX5_typedPick_117 (by decide) (fun c_79 => ?_) (fun c_79 => ?_)
              · skip
                obtain ⟨tx_78T, tx_78V, tx_78X, tx_78Z, tx_78q, tx_78u, tx_781, tx_782, tx_783, tx_784⟩ := tx_78.ok c_79
                obtain ⟨tx_78t, tx_78v, tx_78b, tx_78x⟩ := id tx_78u.1.2.1
                refine lv_iinc (v := 3) (lv' := [(7, .int 3), (5, .int r_71), (8, .int r_62), (6, .int (nI tx_21T)), (4, .int r_5), (0, .ref (ga G 4)), (1, .int n), (2, .int (nI lv)), (3, .int (nI dp))]) hx hb dX5_typedPick_123 hl (k := 2) rfl (by decide) (by decide) rfl (fun ls hl => ?_)
                refine lv_goto (tgt := 68) hx hb dX5_typedPick_126 (by decide) ?_
                refine lv_iload hx hb dX5_typedPick_68 (lv_at hl 0 rfl) ?_
                refine lv_iconst (v := 2) hx hb dX5_typedPick_70 (by decide) ?_
                refine lv_icmp_gt (tgt := 129) hx hb dX5_typedPick_71 (by decide) (fun c_80 => ?_) (fun c_80 => absurd (by decide) c_80)
                refine lv_iload hx hb dX5_typedPick_129 (lv_at hl 3 rfl) ?_
                exact c_iret (v := nI tx_21T) hx hb hr hK hP hD hS hC hh hpp ⟨aw_75t, (US.tx tx_78u (by omega) (nI tx_21T))⟩ dX5_typedPick_131 hlocks
              · skip
                refine lv_iload hx hb dX5_typedPick_120 (lv_at hl 0 rfl) ?_
                exact c_iret (v := r_71) hx hb hr hK hP hD hS hC hh hpp ⟨aw_75t, (TX.bad tx_78 (by omega) (Int32.not_le.mp c_79))⟩ dX5_typedPick_122 hlocks
            · skip
              refine lv_iload hx hb dX5_typedPick_99 (lv_at hl 0 rfl) ?_
              refine lv_goto (tgt := 113) hx hb dX5_typedPick_101 (by decide) ?_
              refine lv_istore (lv' := [(5, .int r_62), (8, .int r_62), (7, .int 2), (6, .int (nI tx_21T)), (4, .int r_5), (0, .ref (ga G 4)), (1, .int n), (2, .int (nI lv)), (3, .int (nI dp))]) hx hb dX5_typedPick_113 hl (by decide) rfl (fun ls hl => ?_)
              refine lv_iload hx hb dX5_typedPick_115 (lv_at hl 0 rfl) ?_
              refine lv_if_ge (tgt := 123) hx hb dX5_typedPick_117 (by decide) (fun c_81 => absurd c_81 c_70) (fun c_81 => ?_)
              refine lv_iload hx hb dX5_typedPick_120 (lv_at hl 0 rfl) ?_
              exact c_iret (v := r_62) hx hb hr hK hP hD hS hC hh hpp ⟨aw_66t, (TX.bad tx_69 (by omega) (Int32.not_le.mp c_70))⟩ dX5_typedPick_122 hlocks
          · skip
            refine lv_iload hx hb dX5_typedPick_120 (lv_at hl 0 rfl) ?_
            exact c_iret (v := r_48) hx hb hr hK hP hD hS hC hh hpp ⟨aw_52t, (TX.bad tx_55 (by omega) (Int32.not_le.mp c_56))⟩ dX5_typedPick_122 hlocks
        · skip
          refine lv_iload hx hb dX5_typedPick_99 (lv_at hl 0 rfl) ?_
          refine lv_goto (tgt := 113) hx hb dX5_typedPick_101 (by decide) ?_
          refine lv_istore (lv' := [(5, .int r_39), (8, .int r_39), (7, .int 1), (6, .int (nI tx_21T)), (4, .int r_5), (0, .ref (ga G 4)), (1, .int n), (2, .int (nI lv)), (3, .int (nI dp))]) hx hb dX5_typedPick_113 hl (by decide) rfl (fun ls hl => ?_)
          refine lv_iload hx hb dX5_typedPick_115 (lv_at hl 0 rfl) ?_
          refine lv_if_ge (tgt := 123) hx hb dX5_typedPick_117 (by decide) (fun c_82 => absurd c_82 c_47) (fun c_82 => ?_)
          refine lv_iload hx hb dX5_typedPick_120 (lv_at hl 0 rfl) ?_
          exact c_iret (v := r_39) hx hb hr hK hP hD hS hC hh hpp ⟨aw_43t, (TX.bad tx_46 (by omega) (Int32.not_le.mp c_47))⟩ dX5_typedPick_122 hlocks
    · skip
      refine lv_iload hx hb dX5_typedPick_44 (lv_at hl 0 rfl) ?_
      exact c_iret (v := r_14) hx hb hr hK hP hD hS hC hh hpp ⟨aw_18t, (TX.bad tx_21 (by omega) (Int32.not_le.mp c_22))⟩ dX5_typedPick_46 hlocks
  · skip
    refine lv_iload hx hb dX5_typedPick_24 (lv_at hl 0 rfl) ?_
    refine lv_goto (tgt := 37) hx hb dX5_typedPick_26 (by decide) ?_
    refine lv_istore (lv' := [(5, .int r_5), (4, .int r_5), (0, .ref (ga G 4)), (1, .int n), (2, .int (nI lv)), (3, .int (nI dp))]) hx hb dX5_typedPick_37 hl (by decide) rfl (fun ls hl => ?_)
    refine lv_iload hx hb dX5_typedPick_39 (lv_at hl 0 rfl) ?_
    refine lv_if_ge (tgt := 47) hx hb dX5_typedPick_41 (by decide) (fun c_83 => absurd c_83 c_13) (fun c_83 => ?_)
    refine lv_iload hx hb dX5_typedPick_44 (lv_at hl 0 rfl) ?_
    exact c_iret (v := r_5) hx hb hr hK hP hD hS hC hh hpp ⟨aw_9t, (TX.bad tx_12 (by omega) (Int32.not_le.mp c_13))⟩ dX5_typedPick_46 hlocks

set_option maxHeartbeats 4000000 in
set_option maxRecDepth 100000 in
/-- typedWholes -/
theorem g_typedWholes (l : Launch) (G : cG) (S : cS) (fu : Nat) (T : Nat) (V : Nat) (X : Nat) (Y : Nat) (Z : Nat) (q : Nat) (N : Nat) (dp : Nat) (lv : Nat) (n : Int32) (hC : CL S) (ih : cTypedAt fu) (hU : US S T V X Y Z q) (hq : q ≤ 1500) (h15 : kK S 15 = 0) (hT : TJ S N) (hdp : dp + (fu + 1) = 61) (hlv : lv ≤ dp) (hY2 : Y + (6 * (fu + 1) + 372) ≤ 900) (Hs : Heap) : Met l yX5_typedWholes (wC yX5_typedWholes cX5_typedWholes 7 (some .int)) (cRm S (2 * fu + 141) (60 * fu + 6530)) (cPc G S Hs [.ref (ga G 4), .int n, .int (nI lv), .int (nI dp)]) (cQi G S Hs (fun v u => AW [6, 7, 8, 9, 16, 14, 10, 11, 12, 13, 17, 18, 23, 24, 25, 26, 35] [8, 9, 10, 12, 13] S u ∧ (TX u T V Y q (6 * (fu + 1) + 372) v))) (CC - PT S) (12 * (CC - PT S)) (cA G S Hs.size) := by
  refine Met.ofW (cc := cX5_typedWholes) (maxL := 7) (ret := (some .int)) (by decide) rfl ?_
  intro p e s m args below meth c s₁ B hml hv
  obtain ⟨rfl, hsz, hP, hK, hD0, -⟩ := hv
  have hx := B.exec
  have hb := B.bytes
  have hr := B.returns
  have htu : ∀ w ∈ CU, w.before _ s = true := fun w h => atoms_spec (ws := (wC yX5_typedWholes cX5_typedWholes 7 (some .int))) B.pre w (List.mem_cons_of_mem _ h)
  have hown : s.vm.findClass RX5 = some m.cls := findClass_of_methodNamed B.named
  have hlocks := B.notSynchronized
  subst hsz
  have hD : cD (cA G S s.heap.size) G S := cD_self hD0
  have hl := lv_entry ([.ref (ga G 4), .int n, .int (nI lv), .int (nI dp)]) (n := 7) (Nat.le_of_ble_eq_true rfl)
  rw [lg_entry_eq]
  generalize (lg_sl ([.ref (ga G 4), .int n, .int (nI lv), .int (nI dp)]) ++ List.replicate (7 - (lg_sl ([.ref (ga G 4), .int n, .int (nI lv), .int (nI dp)])).length) Slot.unset).toArray = ls at hl ⊢
  have hl : lv_has ls 7 [(0, .ref (ga G 4)), (1, .int n), (2, .int (nI lv)), (3, .int (nI dp))] := hl
  obtain ⟨H, hHe⟩ : ∃ H : Heap, H = s.heap := ⟨_, rfl⟩
  rw [← hHe] at hP
  have hS : va_S (cA G S s.heap.size) s.heap H [] := by rw [hHe]; exact va_S.rf
  have hh : HS S S := HS.rf
  have hpp : PT S ≤ PT S := Nat.le_refl _
  have hB9 := hC.1
  refine W.heq hHe ?_
  refine c_ent (S := S) ?_
  obtain ⟨tT, tV, tB, tX⟩ := id hU.1.2.1
  refine lv_iconst (v := 0) hx hb dX5_typedWholes_0 (by decide) ?_
  refine lv_istore (lv' := [(4, .int 0), (0, .ref (ga G 4)), (1, .int n), (2, .int (nI lv)), (3, .int (nI dp))]) hx hb dX5_typedWholes_1 hl (by decide) rfl (fun ls hl => ?_)
  refine lv_iload hx hb dX5_typedWholes_3 (lv_at hl 0 rfl) ?_
  refine lv_iconst (v := 1) hx hb dX5_typedWholes_5 (by decide) ?_
  refine lv_icmp_gt (tgt := 63) hx hb dX5_typedWholes_6 (by decide) (fun c_1 => absurd c_1 (by decide)) (fun c_1 => ?_)
  refine lv_aload_n hx hb dX5_typedWholes_9 rfl (lv_at hl 1 rfl) ?_
  refine lv_aload_n hx hb dX5_typedWholes_10 rfl (lv_at hl 1 rfl) ?_
  refine va_get (D := gD G) (ci := 5) (v := .ref (ga G 1)) (C := RX5) (T := TX5) (N := 15) hx hb htu cu_in5 hown hK hP 4 cw_4 rfl 0 (by decide) (htu _ C_60) (fun _ h9 => h9) rfl dX5_typedWholes_11 ?_
  refine lv_iload_n hx hb dX5_typedWholes_14 rfl (lv_at hl 2 rfl) ?_
  refine lv_iload hx hb dX5_typedWholes_15 (lv_at hl 0 rfl) ?_
  have hC0 := hC
  refine c_ci (c_runV (As := [.int n, .int 0]) (rest := [.ref (ga G 4)]) (q0 := 1) (ci := 3) ⟨hx, hb, hml, hown, htu⟩ (tt_partOf l G S N n 0 hC hT.1 H) (cwV 2 htu hU_X5_144 rfl rfl rfl (by decide +kernel) ⟨show 1 + 1 ≤ 2 * fu + 141 by omega, show 8 + (3 + 11) + 21 ≤ 60 * fu + 6530 by omega⟩) hP hK hD hC hpp cw_1 rfl rfl hl.1 rfl (lv_room (Nat.le_of_ble_eq_true rfl)) dX5_typedWholes_17) hS hD hh hpp (fun r_2 S_3 H locs hw_4 hP hD hS hC hh hs_5 hpp => ?_)
  obtain ⟨-, hu9, hw_4⟩ := hw_4
  have hu9 := hu9.symm
  subst hu9
  refine lv_iload_n hx hb dX5_typedWholes_20 rfl (lv_at hl 3 rfl) ?_
  refine lv_iload_n hx hb dX5_typedWholes_21 rfl (lv_at hl 4 rfl) ?_
  refine lv_iconst (v := 1) hx hb dX5_typedWholes_22 (by decide) ?_
  refine lv_iadd hx hb dX5_typedWholes_23 ?_
  refine m_top (y := nI (dp + 1)) (nI_add dp 1) ?_
  have hC0 := hC
  refine c_ci (c_runV (As := [.int r_2, .int (nI lv), .int (nI (dp + 1))]) (rest := []) (q0 := 4) (ci := 5) ⟨hx, hb, hml, hown, htu⟩ (ih l G S T V X Y Z q N (dp + 1) lv r_2 hC hU ((by omega)) h15 hT ((by omega)) ((by omega)) ((by omega)) H) (cwV 3 htu hU_X5_77 rfl rfl rfl (by decide +kernel) ⟨show (2 * fu + 140) + 1 ≤ 2 * fu + 141 by omega, show 8 + (5 + 11) + (60 * fu + 6500) ≤ 60 * fu + 6530 by omega⟩) hP hK hD hC hpp cw_4 rfl rfl hl.1 rfl (lv_room (Nat.le_of_ble_eq_true rfl)) dX5_typedWholes_24) hS hD hh hpp (fun r_6 S_7 H locs hw_8 hP hD hS hC hh hs_9 hpp => ?_)
  try dsimp only at hw_8
  have aw_10 : AW [6, 7, 8, 9, 16, 14, 10, 11, 12, 13, 17, 18, 23, 24, 25, 26, 35] [8, 9, 10, 12, 13] S S_7 := hw_8.1
  have aw_10t : AW [6, 7, 8, 9, 16, 14, 10, 11, 12, 13, 17, 18, 23, 24, 25, 26, 35] [8, 9, 10, 12, 13] S S_7 := AW.rf.tr (aw_10.mono (by decide) (by decide))
  have kk_11 : kK S_7 15 = 0 := (aw_10.2.1 15 (lt35 (by decide)) (by decide)).2.trans h15
  have tj_12 : TJ S_7 N := TJ.aw hT aw_10 (by decide)
  have tx_13 := hw_8.2
  refine lv_istore (lv' := [(5, .int r_6), (4, .int 0), (0, .ref (ga G 4)), (1, .int n), (2, .int (nI lv)), (3, .int (nI dp))]) hx hb dX5_typedWholes_27 hl (by decide) rfl (fun ls hl => ?_)
  refine lv_iload hx hb dX5_typedWholes_29 (lv_at hl 0 rfl) ?_
  refine lv_if_ge (tgt := 39) hx hb dX5_typedWholes_31 (by decide) (fun c_14 => ?_) (fun c_14 => ?_)
  · skip
    obtain ⟨tx_13T, tx_13V, tx_13X, tx_13Z, tx_13q, tx_13u, tx_131, tx_132, tx_133, tx_134⟩ := tx_13.ok c_14
    obtain ⟨tx_13t, tx_13v, tx_13b, tx_13x⟩ := id tx_13u.1.2.1
    refine lv_aload_n hx hb dX5_typedWholes_39 rfl (lv_at hl 2 rfl) ?_
    refine lv_iload hx hb dX5_typedWholes_40 (lv_at hl 0 rfl) ?_
    refine lv_iconst (v := 0) hx hb dX5_typedWholes_42 (by decide) ?_
    refine lv_iconst (v := 1) hx hb dX5_typedWholes_43 (by decide) ?_
    have hC0 := hC
    refine c_ci (c_runV (As := [.int r_6, .int 0, .int 1]) (rest := []) (q0 := 4) (ci := 5) ⟨hx, hb, hml, hown, htu⟩ ((g_under_all 60) l G S_7 tx_13T tx_13V tx_13X Y tx_13Z tx_13q 1 r_6 0 hC tx_13u ((by omega)) kk_11 ((show 1 + 60 = 61 by decide)) ((by omega)) H) (cwV 3 htu hU_X5_150 rfl rfl rfl (by decide +kernel) ⟨show (60 + 70) + 1 ≤ 2 * fu + 141 by omega, show 8 + (8 + 11) + (40 * 60 + 3000) ≤ 60 * fu + 6530 by omega⟩) hP hK hD hC hpp cw_4 rfl rfl hl.1 rfl (lv_room (Nat.le_of_ble_eq_true rfl)) dX5_typedWholes_44) hS hD hh hpp (fun r_15 S_16 H locs hw_17 hP hD hS hC hh hs_18 hpp => ?_)
    try dsimp only at hw_17
    have aw_19 : AW [6, 7, 8, 9, 16, 14, 10, 11, 12, 13, 17, 18, 25, 26, 35] [8, 9, 10, 12] S_7 S_16 := hw_17.1
    have aw_19t : AW [6, 7, 8, 9, 16, 14, 10, 11, 12, 13, 17, 18, 23, 24, 25, 26, 35] [8, 9, 10, 12, 13] S S_16 := aw_10t.tr (aw_19.mono (by decide) (by decide))
    have kk_20 : kK S_16 15 = 0 := (aw_19.2.1 15 (lt35 (by decide)) (by decide)).2.trans kk_11
    have tj_21 : TJ S_16 N := TJ.aw tj_12 aw_19 (by decide)
    have tx_22 := UX.tx hw_17.2
    refine lv_istore (lv' := [(6, .int r_15), (5, .int r_6), (4, .int 0), (0, .ref (ga G 4)), (1, .int n), (2, .int (nI lv)), (3, .int (nI dp))]) hx hb dX5_typedWholes_47 hl (by decide) rfl (fun ls hl => ?_)
    refine lv_iload hx hb dX5_typedWholes_49 (lv_at hl 0 rfl) ?_
    refine lv_if_ge (tgt := 57) hx hb dX5_typedWholes_51 (by decide) (fun c_23 => ?_) (fun c_23 => ?_)
    · skip
      obtain ⟨tx_22T, tx_22V, tx_22X, tx_22Z, tx_22q, tx_22u, tx_221, tx_222, tx_223, tx_224⟩ := tx_22.ok c_23
      obtain ⟨tx_22t, tx_22v, tx_22b, tx_22x⟩ := id tx_22u.1.2.1
      refine lv_iinc (v := 1) (lv' := [(4, .int 1), (6, .int r_15), (5, .int r_6), (0, .ref (ga G 4)), (1, .int n), (2, .int (nI lv)), (3, .int (nI dp))]) hx hb dX5_typedWholes_57 hl (k := 2) rfl (by decide) (by decide) rfl (fun ls hl => ?_)
      refine lv_goto (tgt := 3) hx hb dX5_typedWholes_60 (by decide) ?_
      refine lv_iload hx hb dX5_typedWholes_3 (lv_at hl 0 rfl) ?_
      refine lv_iconst (v := 1) hx hb dX5_typedWholes_5 (by decide) ?_
      refine lv_icmp_gt (tgt := 63) hx hb dX5_typedWholes_6 (by decide) (fun c_24 => absurd c_24 (by decide)) (fun c_24 => ?_)
      refine lv_aload_n hx hb dX5_typedWholes_9 rfl (lv_at hl 3 rfl) ?_
      refine lv_aload_n hx hb dX5_typedWholes_10 rfl (lv_at hl 3 rfl) ?_
      refine va_get (D := gD G) (ci := 5) (v := .ref (ga G 1)) (C := RX5) (T := TX5) (N := 15) hx hb htu cu_in5 hown hK hP 4 cw_4 rfl 0 (by decide) (htu _ C_60) (fun _ h9 => h9) rfl dX5_typedWholes_11 ?_
      refine lv_iload_n hx hb dX5_typedWholes_14 rfl (lv_at hl 4 rfl) ?_
      refine lv_iload hx hb dX5_typedWholes_15 (lv_at hl 0 rfl) ?_
      have hC0 := hC
      refine c_ci (c_runV (As := [.int n, .int 1]) (rest := [.ref (ga G 4)]) (q0 := 1) (ci := 3) ⟨hx, hb, hml, hown, htu⟩ (tt_partOf l G S_16 N n 1 hC tj_21.1 H) (cwV 2 htu hU_X5_144 rfl rfl rfl (by decide +kernel) ⟨show 1 + 1 ≤ 2 * fu + 141 by omega, show 8 + (3 + 11) + 21 ≤ 60 * fu + 6530 by omega⟩) hP hK hD hC hpp cw_1 rfl rfl hl.1 rfl (lv_room (Nat.le_of_ble_eq_true rfl)) dX5_typedWholes_17) hS hD hh hpp (fun r_25 S_26 H locs hw_27 hP hD hS hC hh hs_28 hpp => ?_)
      obtain ⟨-, hu9, hw_27⟩ := hw_27
      have hu9 := hu9.symm
      subst hu9
      refine lv_iload_n hx hb dX5_typedWholes_20 rfl (lv_at hl 5 rfl) ?_
      refine lv_iload_n hx hb dX5_typedWholes_21 rfl (lv_at hl 6 rfl) ?_
      refine lv_iconst (v := 1) hx hb dX5_typedWholes_22 (by decide) ?_
      refine lv_iadd hx hb dX5_typedWholes_23 ?_
      refine m_top (y := nI (dp + 1)) (nI_add dp 1) ?_
      have hC0 := hC
      refine c_ci (c_runV (As := [.int r_25, .int (nI lv), .int (nI (dp + 1))]) (rest := []) (q0 := 4) (ci := 5) ⟨hx, hb, hml, hown, htu⟩ (ih l G S_16 tx_22T tx_22V tx_22X Y tx_22Z tx_22q N (dp + 1) lv r_25 hC tx_22u ((by omega)) kk_20 tj_21 ((by omega)) ((by omega)) ((by omega)) H) (cwV 3 htu hU_X5_77 rfl rfl rfl (by decide +kernel) ⟨show (2 * fu + 140) + 1 ≤ 2 * fu + 141 by omega, show 8 + (5 + 11) + (60 * fu + 6500) ≤ 60 * fu + 6530 by omega⟩) hP hK hD hC hpp cw_4 rfl rfl hl.1 rfl (lv_room (Nat.le_of_ble_eq_true rfl)) dX5_typedWholes_24) hS hD hh hpp (fun r_29 S_30 H locs hw_31 hP hD hS hC hh hs_32 hpp => ?_)
      try dsimp only at hw_31
      have aw_33 : AW [6, 7, 8, 9, 16, 14, 10, 11, 12, 13, 17, 18, 23, 24, 25, 26, 35] [8, 9, 10, 12, 13] S_16 S_30 := hw_31.1
      have aw_33t : AW [6, 7, 8, 9, 16, 14, 10, 11, 12, 13, 17, 18, 23, 24, 25, 26, 35] [8, 9, 10, 12, 13] S S_30 := aw_19t.tr (aw_33.mono (by decide) (by decide))
      have kk_34 : kK S_30 15 = 0 := (aw_33.2.1 15 (lt35 (by decide)) (by decide)).2.trans kk_20
      have tj_35 : TJ S_30 N := TJ.aw tj_21 aw_33 (by decide)
      have tx_36 := hw_31.2
      refine lv_istore (lv' := [(5, .int r_29), (4, .int 1), (6, .int r_15), (0, .ref (ga G 4)), (1, .int n), (2, .int (nI lv)), (3, .int (nI dp))]) hx hb dX5_typedWholes_27 hl (by decide) rfl (fun ls hl => ?_)
      refine lv_iload hx hb dX5_typedWholes_29 (lv_at hl 0 rfl) ?_
      refine lv_if_ge (tgt := 39) hx hb dX5_typedWholes_31 (by decide) (fun c_37 => ?_) (fun c_37 => ?_)
      · skip
        obtain ⟨tx_36T, tx_36V, tx_36X, tx_36Z, tx_36q, tx_36u, tx_361, tx_362, tx_363, tx_364⟩ := tx_36.ok c_37
        obtain ⟨tx_36t, tx_36v, tx_36b, tx_36x⟩ := id tx_36u.1.2.1
        refine lv_aload_n hx hb dX5_typedWholes_39 rfl (lv_at hl 3 rfl) ?_
        refine lv_iload hx hb dX5_typedWholes_40 (lv_at hl 0 rfl) ?_
        refine lv_iconst (v := 0) hx hb dX5_typedWholes_42 (by decide) ?_
        refine lv_iconst (v := 1) hx hb dX5_typedWholes_43 (by decide) ?_
        have hC0 := hC
        refine c_ci (c_runV (As := [.int r_29, .int 0, .int 1]) (rest := []) (q0 := 4) (ci := 5) ⟨hx, hb, hml, hown, htu⟩ ((g_under_all 60) l G S_30 tx_36T tx_36V tx_36X Y tx_36Z tx_36q 1 r_29 0 hC tx_36u ((by omega)) kk_34 ((show 1 + 60 = 61 by decide)) ((by omega)) H) (cwV 3 htu hU_X5_150 rfl rfl rfl (by decide +kernel) ⟨show (60 + 70) + 1 ≤ 2 * fu + 141 by omega, show 8 + (8 + 11) + (40 * 60 + 3000) ≤ 60 * fu + 6530 by omega⟩) hP hK hD hC hpp cw_4 rfl rfl hl.1 rfl (lv_room (Nat.le_of_ble_eq_true rfl)) dX5_typedWholes_44) hS hD hh hpp (fun r_38 S_39 H locs hw_40 hP hD hS hC hh hs_41 hpp => ?_)
        try dsimp only at hw_40
        have aw_42 : AW [6, 7, 8, 9, 16, 14, 10, 11, 12, 13, 17, 18, 25, 26, 35] [8, 9, 10, 12] S_30 S_39 := hw_40.1
        have aw_42t : AW [6, 7, 8, 9, 16, 14, 10, 11, 12, 13, 17, 18, 23, 24, 25, 26, 35] [8, 9, 10, 12, 13] S S_39 := aw_33t.tr (aw_42.mono (by decide) (by decide))
        have kk_43 : kK S_39 15 = 0 := (aw_42.2.1 15 (lt35 (by decide)) (by decide)).2.trans kk_34
        have tj_44 : TJ S_39 N := TJ.aw tj_35 aw_42 (by decide)
        have tx_45 := UX.tx hw_40.2
        refine lv_istore (lv' := [(6, .int r_38), (5, .int r_29), (4, .int 1), (0, .ref (ga G 4)), (1, .int n), (2, .int (nI lv)), (3, .int (nI dp))]) hx hb dX5_typedWholes_47 hl (by decide) rfl (fun ls hl => ?_)
        refine lv_iload hx hb dX5_typedWholes_49 (lv_at hl 0 rfl) ?_
        refine lv_if_ge (tgt := 57) hx hb dX5_typedWholes_51 (by decide) (fun c_46 => ?_) (fun c_46 => ?_)
        · skip
          obtain ⟨tx_45T, tx_45V, tx_45X, tx_45Z, tx_45q, tx_45u, tx_451, tx_452, tx_453, tx_454⟩ := tx_45.ok c_46
          obtain ⟨tx_45t, tx_45v, tx_45b, tx_45x⟩ := id tx_45u.1.2.1
          refine lv_iinc (v := 2) (lv' := [(4, .int 2), (6, .int r_38), (5, .int r_29), (0, .ref (ga G 4)), (1, .int n), (2, .int (nI lv)), (3, .int (nI dp))]) hx hb dX5_typedWholes_57 hl (k := 2) rfl (by decide) (by decide) rfl (fun ls hl => ?_)
          refine lv_goto (tgt := 3) hx hb dX5_typedWholes_60 (by decide) ?_
          refine lv_iload hx hb dX5_typedWholes_3 (lv_at hl 0 rfl) ?_
          refine lv_iconst (v := 1) hx hb dX5_typedWholes_5 (by decide) ?_
          refine lv_icmp_gt (tgt := 63) hx hb dX5_typedWholes_6 (by decide) (fun c_47 => ?_) (fun c_47 => absurd (by decide) c_47)
          refine lv_aload_n hx hb dX5_typedWholes_63 rfl (lv_at hl 3 rfl) ?_
          refine va_get (D := gD G) (ci := 5) (v := .ref (ga G 1)) (C := RX5) (T := TX5) (N := 15) hx hb htu cu_in5 hown hK hP 4 cw_4 rfl 0 (by decide) (htu _ C_60) (fun _ h9 => h9) rfl dX5_typedWholes_64 ?_
          refine lv_iload_n hx hb dX5_typedWholes_67 rfl (lv_at hl 4 rfl) ?_
          have hC0 := hC
          refine c_ci (c_runV (As := [.int n]) (rest := []) (q0 := 1) (ci := 3) ⟨hx, hb, hml, hown, htu⟩ (tt_kindOf l G S_39 N n hC tj_44.1 H) (cwV 1 htu hU_X5_89 rfl rfl rfl (by decide +kernel) ⟨show 1 + 1 ≤ 2 * fu + 141 by omega, show 8 + (2 + 11) + 21 ≤ 60 * fu + 6530 by omega⟩) hP hK hD hC hpp cw_1 rfl rfl hl.1 rfl (lv_room (Nat.le_of_ble_eq_true rfl)) dX5_typedWholes_68) hS hD hh hpp (fun r_48 S_49 H locs hw_50 hP hD hS hC hh hs_51 hpp => ?_)
          obtain ⟨-, hu9, hw_50⟩ := hw_50
          have hu9 := hu9.symm
          subst hu9
          refine lv_bipush (v := 10) hx hb dX5_typedWholes_71 (by decide) ?_
          refine lv_icmp_ne (tgt := 80) hx hb dX5_typedWholes_73 (by decide) (fun c_52 => ?_) (fun c_52 => ?_)
          · skip
            refine lv_iconst (v := 1) hx hb dX5_typedWholes_80 (by decide) ?_
            exact c_iret (v := 1) hx hb hr hK hP hD hS hC hh hpp ⟨aw_42t, (US.tx tx_45u (by omega) 1)⟩ dX5_typedWholes_81 hlocks
          · skip
            refine lv_iconst (v := 0) hx hb dX5_typedWholes_76 (by decide) ?_
            refine lv_goto (tgt := 81) hx hb dX5_typedWholes_77 (by decide) ?_
            exact c_iret (v := 0) hx hb hr hK hP hD hS hC hh hpp ⟨aw_42t, (US.tx tx_45u (by omega) 0)⟩ dX5_typedWholes_81 hlocks
        · skip
          refine lv_iload hx hb dX5_typedWholes_54 (lv_at hl 0 rfl) ?_
          exact c_iret (v := r_38) hx hb hr hK hP hD hS hC hh hpp ⟨aw_42t, (TX.bad tx_45 (by omega) (Int32.not_le.mp c_46))⟩ dX5_typedWholes_56 hlocks
      · skip
        refine lv_iload hx hb dX5_typedWholes_34 (lv_at hl 0 rfl) ?_
        refine lv_goto (tgt := 47) hx hb dX5_typedWholes_36 (by decide) ?_
        refine lv_istore (lv' := [(6, .int r_29), (5, .int r_29), (4, .int 1), (0, .ref (ga G 4)), (1, .int n), (2, .int (nI lv)), (3, .int (nI dp))]) hx hb dX5_typedWholes_47 hl (by decide) rfl (fun ls hl => ?_)
        refine lv_iload hx hb dX5_typedWholes_49 (lv_at hl 0 rfl) ?_
        refine lv_if_ge (tgt := 57) hx hb dX5_typedWholes_51 (by decide) (fun c_53 => absurd c_53 c_37) (fun c_53 => ?_)
        refine lv_iload hx hb dX5_typedWholes_54 (lv_at hl 0 rfl) ?_
        exact c_iret (v := r_29) hx hb hr hK hP hD hS hC hh hpp ⟨aw_33t, (TX.bad tx_36 (by omega) (Int32.not_le.mp c_37))⟩ dX5_typedWholes_56 hlocks
    · skip
      refine lv_iload hx hb dX5_typedWholes_54 (lv_at hl 0 rfl) ?_
      exact c_iret (v := r_15) hx hb hr hK hP hD hS hC hh hpp ⟨aw_19t, (TX.bad tx_22 (by omega) (Int32.not_le.mp c_23))⟩ dX5_typedWholes_56 hlocks
  · skip
    refine lv_iload hx hb dX5_typedWholes_34 (lv_at hl 0 rfl) ?_
    refine lv_goto (tgt := 47) hx hb dX5_typedWholes_36 (by decide) ?_
    refine lv_istore (lv' := [(6, .int r_6), (5, .int r_6), (4, .int 0), (0, .ref (ga G 4)), (1, .int n), (2, .int (nI lv)), (3, .int (nI dp))]) hx hb dX5_typedWholes_47 hl (by decide) rfl (fun ls hl => ?_)
    refine lv_iload hx hb dX5_typedWholes_49 (lv_at hl 0 rfl) ?_
    refine lv_if_ge (tgt := 57) hx hb dX5_typedWholes_51 (by decide) (fun c_54 => absurd c_54 c_14) (fun c_54 => ?_)
    refine lv_iload hx hb dX5_typedWholes_54 (lv_at hl 0 rfl) ?_
    exact c_iret (v := r_6) hx hb hr hK hP hD hS hC hh hpp ⟨aw_10t, (TX.bad tx_13 (by omega) (Int32.not_le.mp c_14))⟩ dX5_typedWholes_56 hlocks

set_option maxHeartbeats 4000000 in
set_option maxRecDepth 100000 in
/-- typed, too deep -/
theorem g_typed_0 (l : Launch) (G : cG) (S : cS) (T : Nat) (V : Nat) (X : Nat) (Y : Nat) (Z : Nat) (q : Nat) (N : Nat) (dp : Nat) (lv : Nat) (n : Int32) (hC : CL S) (hU : US S T V X Y Z q) (hq : q ≤ 1500) (h15 : kK S 15 = 0) (hT : TJ S N) (hdp : dp + 0 = 61) (hlv : lv ≤ dp) (hY2 : Y + (6 * 0 + 372) ≤ 900) (Hs : Heap) : Met l yX5_typed (wC yX5_typed cX5_typed 5 (some .int)) (cRm S (2 * 0 + 140) (60 * 0 + 6500)) (cPc G S Hs [.ref (ga G 4), .int n, .int (nI lv), .int (nI dp)]) (cQi G S Hs (fun v u => AW [6, 7, 8, 9, 16, 14, 10, 11, 12, 13, 17, 18, 23, 24, 25, 26, 35] [8, 9, 10, 12, 13] S u ∧ (TX u T V Y q (6 * 0 + 372) v))) (CC - PT S) (12 * (CC - PT S)) (cA G S Hs.size) := by
  refine Met.ofW (cc := cX5_typed) (maxL := 5) (ret := (some .int)) (by decide) rfl ?_
  intro p e s m args below meth c s₁ B hml hv
  obtain ⟨rfl, hsz, hP, hK, hD0, -⟩ := hv
  have hx := B.exec
  have hb := B.bytes
  have hr := B.returns
  have htu : ∀ w ∈ CU, w.before _ s = true := fun w h => atoms_spec (ws := (wC yX5_typed cX5_typed 5 (some .int))) B.pre w (List.mem_cons_of_mem _ h)
  have hown : s.vm.findClass RX5 = some m.cls := findClass_of_methodNamed B.named
  have hlocks := B.notSynchronized
  subst hsz
  have hD : cD (cA G S s.heap.size) G S := cD_self hD0
  have hl := lv_entry ([.ref (ga G 4), .int n, .int (nI lv), .int (nI dp)]) (n := 5) (Nat.le_of_ble_eq_true rfl)
  rw [lg_entry_eq]
  generalize (lg_sl ([.ref (ga G 4), .int n, .int (nI lv), .int (nI dp)]) ++ List.replicate (5 - (lg_sl ([.ref (ga G 4), .int n, .int (nI lv), .int (nI dp)])).length) Slot.unset).toArray = ls at hl ⊢
  have hl : lv_has ls 5 [(0, .ref (ga G 4)), (1, .int n), (2, .int (nI lv)), (3, .int (nI dp))] := hl
  obtain ⟨H, hHe⟩ : ∃ H : Heap, H = s.heap := ⟨_, rfl⟩
  rw [← hHe] at hP
  have hS : va_S (cA G S s.heap.size) s.heap H [] := by rw [hHe]; exact va_S.rf
  have hh : HS S S := HS.rf
  have hpp : PT S ≤ PT S := Nat.le_refl _
  have hB9 := hC.1
  refine W.heq hHe ?_
  refine c_ent (S := S) ?_
  obtain ⟨tT, tV, tB, tX⟩ := id hU.1.2.1
  refine lv_bipush (v := (-6)) hx hb dX5_typed_0 (by decide) ?_
  refine lv_istore (lv' := [(4, .int ((-6))), (0, .ref (ga G 4)), (1, .int n), (2, .int (nI lv)), (3, .int (nI dp))]) hx hb dX5_typed_2 hl (by decide) rfl (fun ls hl => ?_)
  refine lv_iload_n hx hb dX5_typed_4 rfl (lv_at hl 4 rfl) ?_
  refine lv_bipush (v := 60) hx hb dX5_typed_5 (by decide) ?_
  refine lv_icmp_gt (tgt := 188) hx hb dX5_typed_7 (by decide) (fun c_1 => ?_) (fun c_1 => absurd ((nI_ltI (a := 60) (b := dp) (by omega) (by omega)).mpr (by omega)) c_1)
  refine lv_iload hx hb dX5_typed_188 (lv_at hl 0 rfl) ?_
  refine lv_if_ge (tgt := 207) hx hb dX5_typed_190 (by decide) (fun c_2 => absurd c_2 (by decide)) (fun c_2 => ?_)
  refine lv_aload_n hx hb dX5_typed_193 rfl (lv_at hl 1 rfl) ?_
  refine va_get (D := gD G) (ci := 5) (v := .int (S.1 13)) (C := RX5) (T := TX5) (N := 15) hx hb htu cu_in5 hown hK hP 4 cw_4 rfl 13 (by decide) (htu _ C_58) (fun _ h9 => h9) rfl dX5_typed_194 ?_
  refine lv_bipush (v := (-9)) hx hb dX5_typed_197 (by decide) ?_
  refine lv_icmp_ne (tgt := 207) hx hb dX5_typed_199 (by decide) (fun c_3 => ?_) (fun c_3 => ?_)
  · skip
    refine lv_iload hx hb dX5_typed_207 (lv_at hl 0 rfl) ?_
    exact c_iret (v := (-6)) hx hb hr hK hP hD hS hC hh hpp ⟨AW.rf, (US.txb hU (by omega) (by omega) (by decide))⟩ dX5_typed_209 hlocks
  · skip
    refine lv_aload_n hx hb dX5_typed_202 rfl (lv_at hl 1 rfl) ?_
    refine lv_iload_n hx hb dX5_typed_203 rfl (lv_at hl 2 rfl) ?_
    refine c_put4_13 (x := n) hx hb htu hown hK hP hD hS (htu _ C_58) dX5_typed_204 (fun H locs hP hD hS => ?_)
    have S_4h : HS S (cO S 13 n) := hh
    have S_4c : CL (cO S 13 n) := hC
    have S_4p : PT S ≤ PT (cO S 13 n) := hpp
    refine c_eq (S1 := S) (S2 := cO S 13 n) rfl ?_
    have S_4w : AW [6, 7, 8, 9, 16, 14, 10, 11, 12, 13, 17, 18, 23, 24, 25, 26, 35] [8, 9, 10, 12, 13] S (cO S 13 n) := (AW.o AW.rf (by decide))
    have hh := S_4h
    have hC := S_4c
    have hpp := S_4p
    have tj_5 : TJ (cO S 13 n) N := hT
    refine lv_iload hx hb dX5_typed_207 (lv_at hl 0 rfl) ?_
    exact c_iret (v := (-6)) hx hb hr hK hP hD hS hC hh hpp ⟨S_4w, (TX.o13 (US.txb hU (by omega) (by omega) (by decide)))⟩ dX5_typed_209 hlocks

set_option maxHeartbeats 4000000 in
set_option maxRecDepth 100000 in
/-- typed -/
theorem g_typed_s (l : Launch) (G : cG) (S : cS) (fu : Nat) (T : Nat) (V : Nat) (X : Nat) (Y : Nat) (Z : Nat) (q : Nat) (N : Nat) (dp : Nat) (lv : Nat) (n : Int32) (hC : CL S) (ih : cTypedAt fu) (hU : US S T V X Y Z q) (hq : q ≤ 1500) (h15 : kK S 15 = 0) (hT : TJ S N) (hdp : dp + (fu + 1) = 61) (hlv : lv ≤ dp) (hY2 : Y + (6 * (fu + 1) + 372) ≤ 900) (Hs : Heap) : Met l yX5_typed (wC yX5_typed cX5_typed 5 (some .int)) (cRm S (2 * (fu + 1) + 140) (60 * (fu + 1) + 6500)) (cPc G S Hs [.ref (ga G 4), .int n, .int (nI lv), .int (nI dp)]) (cQi G S Hs (fun v u => AW [6, 7, 8, 9, 16, 14, 10, 11, 12, 13, 17, 18, 23, 24, 25, 26, 35] [8, 9, 10, 12, 13] S u ∧ (TX u T V Y q (6 * (fu + 1) + 372) v))) (CC - PT S) (12 * (CC - PT S)) (cA G S Hs.size) := by
  refine Met.ofW (cc := cX5_typed) (maxL := 5) (ret := (some .int)) (by decide) rfl ?_
  intro p e s m args below meth c s₁ B hml hv
  obtain ⟨rfl, hsz, hP, hK, hD0, -⟩ := hv
  have hx := B.exec
  have hb := B.bytes
  have hr := B.returns
  have htu : ∀ w ∈ CU, w.before _ s = true := fun w h => atoms_spec (ws := (wC yX5_typed cX5_typed 5 (some .int))) B.pre w (List.mem_cons_of_mem _ h)
  have hown : s.vm.findClass RX5 = some m.cls := findClass_of_methodNamed B.named
  have hlocks := B.notSynchronized
  subst hsz
  have hD : cD (cA G S s.heap.size) G S := cD_self hD0
  have hl := lv_entry ([.ref (ga G 4), .int n, .int (nI lv), .int (nI dp)]) (n := 5) (Nat.le_of_ble_eq_true rfl)
  rw [lg_entry_eq]
  generalize (lg_sl ([.ref (ga G 4), .int n, .int (nI lv), .int (nI dp)]) ++ List.replicate (5 - (lg_sl ([.ref (ga G 4), .int n, .int (nI lv), .int (nI dp)])).length) Slot.unset).toArray = ls at hl ⊢
  have hl : lv_has ls 5 [(0, .ref (ga G 4)), (1, .int n), (2, .int (nI lv)), (3, .int (nI dp))] := hl
  obtain ⟨H, hHe⟩ : ∃ H : Heap, H = s.heap := ⟨_, rfl⟩
  rw [← hHe] at hP
  have hS : va_S (cA G S s.heap.size) s.heap H [] := by rw [hHe]; exact va_S.rf
  have hh : HS S S := HS.rf
  have hpp : PT S ≤ PT S := Nat.le_refl _
  have hB9 := hC.1
  refine W.heq hHe ?_
  refine c_ent (S := S) ?_
  obtain ⟨tT, tV, tB, tX⟩ := id hU.1.2.1
  refine lv_bipush (v := (-6)) hx hb dX5_typed_0 (by decide) ?_
  refine lv_istore (lv' := [(4, .int ((-6))), (0, .ref (ga G 4)), (1, .int n), (2, .int (nI lv)), (3, .int (nI dp))]) hx hb dX5_typed_2 hl (by decide) rfl (fun ls hl => ?_)
  refine lv_iload_n hx hb dX5_typed_4 rfl (lv_at hl 4 rfl) ?_
  refine lv_bipush (v := 60) hx hb dX5_typed_5 (by decide) ?_
  refine lv_icmp_gt (tgt := 188) hx hb dX5_typed_7 (by decide) (fun c_1 => absurd c_1 (fun h => by have h2 := (nI_ltI (a := 60) (b := dp) (by omega) (by omega)).mp h; omega)) (fun c_1 => ?_)
  refine lv_aload_n hx hb dX5_typed_10 rfl (lv_at hl 1 rfl) ?_
  refine va_get (D := gD G) (ci := 5) (v := .ref (ga G 1)) (C := RX5) (T := TX5) (N := 15) hx hb htu cu_in5 hown hK hP 4 cw_4 rfl 0 (by decide) (htu _ C_60) (fun _ h9 => h9) rfl dX5_typed_11 ?_
  refine lv_iload_n hx hb dX5_typed_14 rfl (lv_at hl 2 rfl) ?_
  have hC0 := hC
  refine c_ci (c_runV (As := [.int n]) (rest := []) (q0 := 1) (ci := 3) ⟨hx, hb, hml, hown, htu⟩ (tt_kindOf l G S N n hC hT.1 H) (cwV 1 htu hU_X5_89 rfl rfl rfl (by decide +kernel) ⟨show 1 + 1 ≤ 2 * (fu + 1) + 140 by omega, show 8 + (2 + 11) + 21 ≤ 60 * (fu + 1) + 6500 by omega⟩) hP hK hD hC hpp cw_1 rfl rfl hl.1 rfl (lv_room (Nat.le_of_ble_eq_true rfl)) dX5_typed_15) hS hD hh hpp (fun r_2 S_3 H locs hw_4 hP hD hS hC hh hs_5 hpp => ?_)
  obtain ⟨-, hu9, hw_4⟩ := hw_4
  have hu9 := hu9.symm
  subst hu9
  rcases Decidable.em (r_2 = 0) with c_6 | c_6
  · skip
    refine lv_tableIn (tgt := 72) hx hb dX5_typed_18 (by rw [c_6]; decide) (by rw [c_6]; decide) (by rw [c_6]; rfl) (by decide) ?_
    refine lv_iconst (v := 0) hx hb dX5_typed_72 (by decide) ?_
    refine lv_istore (lv' := [(4, .int 0), (0, .ref (ga G 4)), (1, .int n), (2, .int (nI lv)), (3, .int (nI dp))]) hx hb dX5_typed_73 hl (by decide) rfl (fun ls hl => ?_)
    refine lv_goto (tgt := 188) hx hb dX5_typed_75 (by decide) ?_
    refine lv_iload hx hb dX5_typed_188 (lv_at hl 0 rfl) ?_
    refine lv_if_ge (tgt := 207) hx hb dX5_typed_190 (by decide) (fun c_7 => ?_) (fun c_7 => absurd (by decide) c_7)
    refine lv_iload hx hb dX5_typed_207 (lv_at hl 0 rfl) ?_
    exact c_iret (v := 0) hx hb hr hK hP hD hS hC hh hpp ⟨AW.rf, (US.tx hU (by omega) 0)⟩ dX5_typed_209 hlocks
  rcases Decidable.em (r_2 = 1) with c_8 | c_8
  · skip
    refine lv_tableIn (tgt := 78) hx hb dX5_typed_18 (by rw [c_8]; decide) (by rw [c_8]; decide) (by rw [c_8]; rfl) (by decide) ?_
    refine lv_iconst (v := 1) hx hb dX5_typed_78 (by decide) ?_
    refine lv_istore (lv' := [(4, .int 1), (0, .ref (ga G 4)), (1, .int n), (2, .int (nI lv)), (3, .int (nI dp))]) hx hb dX5_typed_79 hl (by decide) rfl (fun ls hl => ?_)
    refine lv_goto (tgt := 188) hx hb dX5_typed_81 (by decide) ?_
    refine lv_iload hx hb dX5_typed_188 (lv_at hl 0 rfl) ?_
    refine lv_if_ge (tgt := 207) hx hb dX5_typed_190 (by decide) (fun c_9 => ?_) (fun c_9 => absurd (by decide) c_9)
    refine lv_iload hx hb dX5_typed_207 (lv_at hl 0 rfl) ?_
    exact c_iret (v := 1) hx hb hr hK hP hD hS hC hh hpp ⟨AW.rf, (US.tx hU (by omega) 1)⟩ dX5_typed_209 hlocks
  rcases Decidable.em (r_2 = 2) with c_10 | c_10
  · skip
    refine lv_tableIn (tgt := 84) hx hb dX5_typed_18 (by rw [c_10]; decide) (by rw [c_10]; decide) (by rw [c_10]; rfl) (by decide) ?_
    refine lv_aload_n hx hb dX5_typed_84 rfl (lv_at hl 1 rfl) ?_
    refine lv_iload_n hx hb dX5_typed_85 rfl (lv_at hl 2 rfl) ?_
    refine lv_iload_n hx hb dX5_typed_86 rfl (lv_at hl 3 rfl) ?_
    have hC0 := hC
    refine c_ci (c_runV (As := [.int n, .int (nI lv)]) (rest := []) (q0 := 4) (ci := 5) ⟨hx, hb, hml, hown, htu⟩ (g_typedName l G S fu T V X Y Z q N dp lv n hC ih hU hq h15 hT hdp hlv hY2 H) (cwV 2 htu hU_X5_93 rfl rfl rfl (by decide +kernel) ⟨show (2 * fu + 141) + 1 ≤ 2 * (fu + 1) + 140 by omega, show 8 + (6 + 11) + (60 * fu + 6530) ≤ 60 * (fu + 1) + 6500 by omega⟩) hP hK hD hC hpp cw_4 rfl rfl hl.1 rfl (lv_room (Nat.le_of_ble_eq_true rfl)) dX5_typed_87) hS hD hh hpp (fun r_11 S_12 H locs hw_13 hP hD hS hC hh hs_14 hpp => ?_)
    try dsimp only at hw_13
    have aw_15 : AW [6, 7, 8, 9, 16, 14, 10, 11, 12, 13, 17, 18, 23, 24, 25, 26, 35] [8, 9, 10, 12, 13] S S_12 := hw_13.1
    have aw_15t : AW [6, 7, 8, 9, 16, 14, 10, 11, 12, 13, 17, 18, 23, 24, 25, 26, 35] [8, 9, 10, 12, 13] S S_12 := AW.rf.tr (aw_15.mono (by decide) (by decide))
    have kk_16 : kK S_12 15 = 0 := (aw_15.2.1 15 (lt35 (by decide)) (by decide)).2.trans h15
    have tj_17 : TJ S_12 N := TJ.aw hT aw_15 (by decide)
    have tx_18 := hw_13.2
    refine lv_istore (lv' := [(4, .int r_11), (0, .ref (ga G 4)), (1, .int n), (2, .int (nI lv)), (3, .int (nI dp))]) hx hb dX5_typed_90 hl (by decide) rfl (fun ls hl => ?_)
    refine lv_goto (tgt := 188) hx hb dX5_typed_92 (by decide) ?_
    refine lv_iload hx hb dX5_typed_188 (lv_at hl 0 rfl) ?_
    refine lv_if_ge (tgt := 207) hx hb dX5_typed_190 (by decide) (fun c_19 => ?_) (fun c_19 => ?_)
    · skip
      refine lv_iload hx hb dX5_typed_207 (lv_at hl 0 rfl) ?_
      exact c_iret (v := r_11) hx hb hr hK hP hD hS hC hh hpp ⟨aw_15t, tx_18⟩ dX5_typed_209 hlocks
    · skip
      refine lv_aload_n hx hb dX5_typed_193 rfl (lv_at hl 1 rfl) ?_
      refine va_get (D := gD G) (ci := 5) (v := .int (S_12.1 13)) (C := RX5) (T := TX5) (N := 15) hx hb htu cu_in5 hown hK hP 4 cw_4 rfl 13 (by decide) (htu _ C_58) (fun _ h9 => h9) rfl dX5_typed_194 ?_
      refine lv_bipush (v := (-9)) hx hb dX5_typed_197 (by decide) ?_
      refine lv_icmp_ne (tgt := 207) hx hb dX5_typed_199 (by decide) (fun c_20 => ?_) (fun c_20 => ?_)
      · skip
        refine lv_iload hx hb dX5_typed_207 (lv_at hl 0 rfl) ?_
        exact c_iret (v := r_11) hx hb hr hK hP hD hS hC hh hpp ⟨aw_15t, tx_18⟩ dX5_typed_209 hlocks
      · skip
        refine lv_aload_n hx hb dX5_typed_202 rfl (lv_at hl 1 rfl) ?_
        refine lv_iload_n hx hb dX5_typed_203 rfl (lv_at hl 2 rfl) ?_
        refine c_put4_13 (x := n) hx hb htu hown hK hP hD hS (htu _ C_58) dX5_typed_204 (fun H locs hP hD hS => ?_)
        have S_21h : HS S (cO S_12 13 n) := hh
        have S_21c : CL (cO S_12 13 n) := hC
        have S_21p : PT S ≤ PT (cO S_12 13 n) := hpp
        refine c_eq (S1 := S_12) (S2 := cO S_12 13 n) rfl ?_
        have S_21w : AW [6, 7, 8, 9, 16, 14, 10, 11, 12, 13, 17, 18, 23, 24, 25, 26, 35] [8, 9, 10, 12, 13] S (cO S_12 13 n) := (AW.o aw_15t (by decide))
        have hh := S_21h
        have hC := S_21c
        have hpp := S_21p
        have tj_22 : TJ (cO S_12 13 n) N := tj_17
        refine lv_iload hx hb dX5_typed_207 (lv_at hl 0 rfl) ?_
        exact c_iret (v := r_11) hx hb hr hK hP hD hS hC hh hpp ⟨S_21w, (TX.o13 tx_18)⟩ dX5_typed_209 hlocks
  rcases Decidable.em (r_2 = 3) with c_23 | c_23
  · skip
    refine lv_tableIn (tgt := 95) hx hb dX5_typed_18 (by rw [c_23]; decide) (by rw [c_23]; decide) (by rw [c_23]; rfl) (by decide) ?_
    refine lv_aload_n hx hb dX5_typed_95 rfl (lv_at hl 1 rfl) ?_
    refine lv_iload_n hx hb dX5_typed_96 rfl (lv_at hl 2 rfl) ?_
    refine lv_iload_n hx hb dX5_typed_97 rfl (lv_at hl 3 rfl) ?_
    refine lv_iload_n hx hb dX5_typed_98 rfl (lv_at hl 4 rfl) ?_
    have hC0 := hC
    refine c_ci (c_runV (As := [.int n, .int (nI lv), .int (nI dp)]) (rest := []) (q0 := 4) (ci := 5) ⟨hx, hb, hml, hown, htu⟩ (g_typedFunction l G S fu T V X Y Z q N dp lv n hC ih hU hq h15 hT hdp hlv hY2 H) (cwV 3 htu hU_X5_97 rfl rfl rfl (by decide +kernel) ⟨show (2 * fu + 141) + 1 ≤ 2 * (fu + 1) + 140 by omega, show 8 + (6 + 11) + (60 * fu + 6530) ≤ 60 * (fu + 1) + 6500 by omega⟩) hP hK hD hC hpp cw_4 rfl rfl hl.1 rfl (lv_room (Nat.le_of_ble_eq_true rfl)) dX5_typed_99) hS hD hh hpp (fun r_24 S_25 H locs hw_26 hP hD hS hC hh hs_27 hpp => ?_)
    try dsimp only at hw_26
    have aw_28 : AW [6, 7, 8, 9, 16, 14, 10, 11, 12, 13, 17, 18, 23, 24, 25, 26, 35] [8, 9, 10, 12, 13] S S_25 := hw_26.1
    have aw_28t : AW [6, 7, 8, 9, 16, 14, 10, 11, 12, 13, 17, 18, 23, 24, 25, 26, 35] [8, 9, 10, 12, 13] S S_25 := AW.rf.tr (aw_28.mono (by decide) (by decide))
    have kk_29 : kK S_25 15 = 0 := (aw_28.2.1 15 (lt35 (by decide)) (by decide)).2.trans h15
    have tj_30 : TJ S_25 N := TJ.aw hT aw_28 (by decide)
    have tx_31 := hw_26.2
    refine lv_istore (lv' := [(4, .int r_24), (0, .ref (ga G 4)), (1, .int n), (2, .int (nI lv)), (3, .int (nI dp))]) hx hb dX5_typed_102 hl (by decide) rfl (fun ls hl => ?_)
    refine lv_goto (tgt := 188) hx hb dX5_typed_104 (by decide) ?_
    refine lv_iload hx hb dX5_typed_188 (lv_at hl 0 rfl) ?_
    refine lv_if_ge (tgt := 207) hx hb dX5_typed_190 (by decide) (fun c_32 => ?_) (fun c_32 => ?_)
    · skip
      refine lv_iload hx hb dX5_typed_207 (lv_at hl 0 rfl) ?_
      exact c_iret (v := r_24) hx hb hr hK hP hD hS hC hh hpp ⟨aw_28t, tx_31⟩ dX5_typed_209 hlocks
    · skip
      refine lv_aload_n hx hb dX5_typed_193 rfl (lv_at hl 1 rfl) ?_
      refine va_get (D := gD G) (ci := 5) (v := .int (S_25.1 13)) (C := RX5) (T := TX5) (N := 15) hx hb htu cu_in5 hown hK hP 4 cw_4 rfl 13 (by decide) (htu _ C_58) (fun _ h9 => h9) rfl dX5_typed_194 ?_
      refine lv_bipush (v := (-9)) hx hb dX5_typed_197 (by decide) ?_
      refine lv_icmp_ne (tgt := 207) hx hb dX5_typed_199 (by decide) (fun c_33 => ?_) (fun c_33 => ?_)
      · skip
        refine lv_iload hx hb dX5_typed_207 (lv_at hl 0 rfl) ?_
        exact c_iret (v := r_24) hx hb hr hK hP hD hS hC hh hpp ⟨aw_28t, tx_31⟩ dX5_typed_209 hlocks
      · skip
        refine lv_aload_n hx hb dX5_typed_202 rfl (lv_at hl 1 rfl) ?_
        refine lv_iload_n hx hb dX5_typed_203 rfl (lv_at hl 2 rfl) ?_
        refine c_put4_13 (x := n) hx hb htu hown hK hP hD hS (htu _ C_58) dX5_typed_204 (fun H locs hP hD hS => ?_)
        have S_34h : HS S (cO S_25 13 n) := hh
        have S_34c : CL (cO S_25 13 n) := hC
        have S_34p : PT S ≤ PT (cO S_25 13 n) := hpp
        refine c_eq (S1 := S_25) (S2 := cO S_25 13 n) rfl ?_
        have S_34w : AW [6, 7, 8, 9, 16, 14, 10, 11, 12, 13, 17, 18, 23, 24, 25, 26, 35] [8, 9, 10, 12, 13] S (cO S_25 13 n) := (AW.o aw_28t (by decide))
        have hh := S_34h
        have hC := S_34c
        have hpp := S_34p
        have tj_35 : TJ (cO S_25 13 n) N := tj_30
        refine lv_iload hx hb dX5_typed_207 (lv_at hl 0 rfl) ?_
        exact c_iret (v := r_24) hx hb hr hK hP hD hS hC hh hpp ⟨S_34w, (TX.o13 tx_31)⟩ dX5_typed_209 hlocks
  rcases Decidable.em (r_2 = 4) with c_36 | c_36
  · skip
    refine lv_tableIn (tgt := 107) hx hb dX5_typed_18 (by rw [c_36]; decide) (by rw [c_36]; decide) (by rw [c_36]; rfl) (by decide) ?_
    refine lv_aload_n hx hb dX5_typed_107 rfl (lv_at hl 1 rfl) ?_
    refine lv_iload_n hx hb dX5_typed_108 rfl (lv_at hl 2 rfl) ?_
    refine lv_iload_n hx hb dX5_typed_109 rfl (lv_at hl 3 rfl) ?_
    refine lv_iload_n hx hb dX5_typed_110 rfl (lv_at hl 4 rfl) ?_
    have hC0 := hC
    refine c_ci (c_runV (As := [.int n, .int (nI lv), .int (nI dp)]) (rest := []) (q0 := 4) (ci := 5) ⟨hx, hb, hml, hown, htu⟩ (g_typedApply l G S fu T V X Y Z q N dp lv n hC ih hU hq h15 hT hdp hlv hY2 H) (cwV 3 htu hU_X5_100 rfl rfl rfl (by decide +kernel) ⟨show (2 * fu + 141) + 1 ≤ 2 * (fu + 1) + 140 by omega, show 8 + (9 + 11) + (60 * fu + 6530) ≤ 60 * (fu + 1) + 6500 by omega⟩) hP hK hD hC hpp cw_4 rfl rfl hl.1 rfl (lv_room (Nat.le_of_ble_eq_true rfl)) dX5_typed_111) hS hD hh hpp (fun r_37 S_38 H locs hw_39 hP hD hS hC hh hs_40 hpp => ?_)
    try dsimp only at hw_39
    have aw_41 : AW [6, 7, 8, 9, 16, 14, 10, 11, 12, 13, 17, 18, 23, 24, 25, 26, 35] [8, 9, 10, 12, 13] S S_38 := hw_39.1
    have aw_41t : AW [6, 7, 8, 9, 16, 14, 10, 11, 12, 13, 17, 18, 23, 24, 25, 26, 35] [8, 9, 10, 12, 13] S S_38 := AW.rf.tr (aw_41.mono (by decide) (by decide))
    have kk_42 : kK S_38 15 = 0 := (aw_41.2.1 15 (lt35 (by decide)) (by decide)).2.trans h15
    have tj_43 : TJ S_38 N := TJ.aw hT aw_41 (by decide)
    have tx_44 := hw_39.2
    refine lv_istore (lv' := [(4, .int r_37), (0, .ref (ga G 4)), (1, .int n), (2, .int (nI lv)), (3, .int (nI dp))]) hx hb dX5_typed_114 hl (by decide) rfl (fun ls hl => ?_)
    refine lv_goto (tgt := 188) hx hb dX5_typed_116 (by decide) ?_
    refine lv_iload hx hb dX5_typed_188 (lv_at hl 0 rfl) ?_
    refine lv_if_ge (tgt := 207) hx hb dX5_typed_190 (by decide) (fun c_45 => ?_) (fun c_45 => ?_)
    · skip
      refine lv_iload hx hb dX5_typed_207 (lv_at hl 0 rfl) ?_
      exact c_iret (v := r_37) hx hb hr hK hP hD hS hC hh hpp ⟨aw_41t, tx_44⟩ dX5_typed_209 hlocks
    · skip
      refine lv_aload_n hx hb dX5_typed_193 rfl (lv_at hl 1 rfl) ?_
      refine va_get (D := gD G) (ci := 5) (v := .int (S_38.1 13)) (C := RX5) (T := TX5) (N := 15) hx hb htu cu_in5 hown hK hP 4 cw_4 rfl 13 (by decide) (htu _ C_58) (fun _ h9 => h9) rfl dX5_typed_194 ?_
      refine lv_bipush (v := (-9)) hx hb dX5_typed_197 (by decide) ?_
      refine lv_icmp_ne (tgt := 207) hx hb dX5_typed_199 (by decide) (fun c_46 => ?_) (fun c_46 => ?_)
      · skip
        refine lv_iload hx hb dX5_typed_207 (lv_at hl 0 rfl) ?_
        exact c_iret (v := r_37) hx hb hr hK hP hD hS hC hh hpp ⟨aw_41t, tx_44⟩ dX5_typed_209 hlocks
      · skip
        refine lv_aload_n hx hb dX5_typed_202 rfl (lv_at hl 1 rfl) ?_
        refine lv_iload_n hx hb dX5_typed_203 rfl (lv_at hl 2 rfl) ?_
        refine c_put4_13 (x := n) hx hb htu hown hK hP hD hS (htu _ C_58) dX5_typed_204 (fun H locs hP hD hS => ?_)
        have S_47h : HS S (cO S_38 13 n) := hh
        have S_47c : CL (cO S_38 13 n) := hC
        have S_47p : PT S ≤ PT (cO S_38 13 n) := hpp
        refine c_eq (S1 := S_38) (S2 := cO S_38 13 n) rfl ?_
        have S_47w : AW [6, 7, 8, 9, 16, 14, 10, 11, 12, 13, 17, 18, 23, 24, 25, 26, 35] [8, 9, 10, 12, 13] S (cO S_38 13 n) := (AW.o aw_41t (by decide))
        have hh := S_47h
        have hC := S_47c
        have hpp := S_47p
        have tj_48 : TJ (cO S_38 13 n) N := tj_43
        refine lv_iload hx hb dX5_typed_207 (lv_at hl 0 rfl) ?_
        exact c_iret (v := r_37) hx hb hr hK hP hD hS hC hh hpp ⟨S_47w, (TX.o13 tx_44)⟩ dX5_typed_209 hlocks
  rcases Decidable.em (r_2 = 5) with c_49 | c_49
  · skip
    refine lv_tableIn (tgt := 119) hx hb dX5_typed_18 (by rw [c_49]; decide) (by rw [c_49]; decide) (by rw [c_49]; rfl) (by decide) ?_
    refine lv_aload_n hx hb dX5_typed_119 rfl (lv_at hl 1 rfl) ?_
    refine lv_iload_n hx hb dX5_typed_120 rfl (lv_at hl 2 rfl) ?_
    refine lv_iload_n hx hb dX5_typed_121 rfl (lv_at hl 3 rfl) ?_
    refine lv_iload_n hx hb dX5_typed_122 rfl (lv_at hl 4 rfl) ?_
    have hC0 := hC
    refine c_ci (c_runV (As := [.int n, .int (nI lv), .int (nI dp)]) (rest := []) (q0 := 4) (ci := 5) ⟨hx, hb, hml, hown, htu⟩ (g_typedRecord l G S fu T V X Y Z q N dp lv n hC ih hU hq h15 hT hdp hlv hY2 H) (cwV 3 htu hU_X5_103 rfl rfl rfl (by decide +kernel) ⟨show (2 * fu + 141) + 1 ≤ 2 * (fu + 1) + 140 by omega, show 8 + (8 + 11) + (60 * fu + 6530) ≤ 60 * (fu + 1) + 6500 by omega⟩) hP hK hD hC hpp cw_4 rfl rfl hl.1 rfl (lv_room (Nat.le_of_ble_eq_true rfl)) dX5_typed_123) hS hD hh hpp (fun r_50 S_51 H locs hw_52 hP hD hS hC hh hs_53 hpp => ?_)
    try dsimp only at hw_52
    have aw_54 : AW [6, 7, 8, 9, 16, 14, 10, 11, 12, 13, 17, 18, 23, 24, 25, 26, 35] [8, 9, 10, 12, 13] S S_51 := hw_52.1
    have aw_54t : AW [6, 7, 8, 9, 16, 14, 10, 11, 12, 13, 17, 18, 23, 24, 25, 26, 35] [8, 9, 10, 12, 13] S S_51 := AW.rf.tr (aw_54.mono (by decide) (by decide))
    have kk_55 : kK S_51 15 = 0 := (aw_54.2.1 15 (lt35 (by decide)) (by decide)).2.trans h15
    have tj_56 : TJ S_51 N := TJ.aw hT aw_54 (by decide)
    have tx_57 := hw_52.2
    refine lv_istore (lv' := [(4, .int r_50), (0, .ref (ga G 4)), (1, .int n), (2, .int (nI lv)), (3, .int (nI dp))]) hx hb dX5_typed_126 hl (by decide) rfl (fun ls hl => ?_)
    refine lv_goto (tgt := 188) hx hb dX5_typed_128 (by decide) ?_
    refine lv_iload hx hb dX5_typed_188 (lv_at hl 0 rfl) ?_
    refine lv_if_ge (tgt := 207) hx hb dX5_typed_190 (by decide) (fun c_58 => ?_) (fun c_58 => ?_)
    · skip
      refine lv_iload hx hb dX5_typed_207 (lv_at hl 0 rfl) ?_
      exact c_iret (v := r_50) hx hb hr hK hP hD hS hC hh hpp ⟨aw_54t, tx_57⟩ dX5_typed_209 hlocks
    · skip
      refine lv_aload_n hx hb dX5_typed_193 rfl (lv_at hl 1 rfl) ?_
      refine va_get (D := gD G) (ci := 5) (v := .int (S_51.1 13)) (C := RX5) (T := TX5) (N := 15) hx hb htu cu_in5 hown hK hP 4 cw_4 rfl 13 (by decide) (htu _ C_58) (fun _ h9 => h9) rfl dX5_typed_194 ?_
      refine lv_bipush (v := (-9)) hx hb dX5_typed_197 (by decide) ?_
      refine lv_icmp_ne (tgt := 207) hx hb dX5_typed_199 (by decide) (fun c_59 => ?_) (fun c_59 => ?_)
      · skip
        refine lv_iload hx hb dX5_typed_207 (lv_at hl 0 rfl) ?_
        exact c_iret (v := r_50) hx hb hr hK hP hD hS hC hh hpp ⟨aw_54t, tx_57⟩ dX5_typed_209 hlocks
      · skip
        refine lv_aload_n hx hb dX5_typed_202 rfl (lv_at hl 1 rfl) ?_
        refine lv_iload_n hx hb dX5_typed_203 rfl (lv_at hl 2 rfl) ?_
        refine c_put4_13 (x := n) hx hb htu hown hK hP hD hS (htu _ C_58) dX5_typed_204 (fun H locs hP hD hS => ?_)
        have S_60h : HS S (cO S_51 13 n) := hh
        have S_60c : CL (cO S_51 13 n) := hC
        have S_60p : PT S ≤ PT (cO S_51 13 n) := hpp
        refine c_eq (S1 := S_51) (S2 := cO S_51 13 n) rfl ?_
        have S_60w : AW [6, 7, 8, 9, 16, 14, 10, 11, 12, 13, 17, 18, 23, 24, 25, 26, 35] [8, 9, 10, 12, 13] S (cO S_51 13 n) := (AW.o aw_54t (by decide))
        have hh := S_60h
        have hC := S_60c
        have hpp := S_60p
        have tj_61 : TJ (cO S_51 13 n) N := tj_56
        refine lv_iload hx hb dX5_typed_207 (lv_at hl 0 rfl) ?_
        exact c_iret (v := r_50) hx hb hr hK hP hD hS hC hh hpp ⟨S_60w, (TX.o13 tx_57)⟩ dX5_typed_209 hlocks
  rcases Decidable.em (r_2 = 6) with c_62 | c_62
  · skip
    refine lv_tableIn (tgt := 131) hx hb dX5_typed_18 (by rw [c_62]; decide) (by rw [c_62]; decide) (by rw [c_62]; rfl) (by decide) ?_
    refine lv_aload_n hx hb dX5_typed_131 rfl (lv_at hl 1 rfl) ?_
    refine lv_iload_n hx hb dX5_typed_132 rfl (lv_at hl 2 rfl) ?_
    refine lv_iload_n hx hb dX5_typed_133 rfl (lv_at hl 3 rfl) ?_
    refine lv_iload_n hx hb dX5_typed_134 rfl (lv_at hl 4 rfl) ?_
    have hC0 := hC
    refine c_ci (c_runV (As := [.int n, .int (nI lv), .int (nI dp)]) (rest := []) (q0 := 4) (ci := 5) ⟨hx, hb, hml, hown, htu⟩ (g_typedField l G S fu T V X Y Z q N dp lv n hC ih hU hq h15 hT hdp hlv hY2 H) (cwV 3 htu hU_X5_106 rfl rfl rfl (by decide +kernel) ⟨show (2 * fu + 141) + 1 ≤ 2 * (fu + 1) + 140 by omega, show 8 + (9 + 11) + (60 * fu + 6530) ≤ 60 * (fu + 1) + 6500 by omega⟩) hP hK hD hC hpp cw_4 rfl rfl hl.1 rfl (lv_room (Nat.le_of_ble_eq_true rfl)) dX5_typed_135) hS hD hh hpp (fun r_63 S_64 H locs hw_65 hP hD hS hC hh hs_66 hpp => ?_)
    try dsimp only at hw_65
    have aw_67 : AW [6, 7, 8, 9, 16, 14, 10, 11, 12, 13, 17, 18, 23, 24, 25, 26, 35] [8, 9, 10, 12, 13] S S_64 := hw_65.1
    have aw_67t : AW [6, 7, 8, 9, 16, 14, 10, 11, 12, 13, 17, 18, 23, 24, 25, 26, 35] [8, 9, 10, 12, 13] S S_64 := AW.rf.tr (aw_67.mono (by decide) (by decide))
    have kk_68 : kK S_64 15 = 0 := (aw_67.2.1 15 (lt35 (by decide)) (by decide)).2.trans h15
    have tj_69 : TJ S_64 N := TJ.aw hT aw_67 (by decide)
    have tx_70 := hw_65.2
    refine lv_istore (lv' := [(4, .int r_63), (0, .ref (ga G 4)), (1, .int n), (2, .int (nI lv)), (3, .int (nI dp))]) hx hb dX5_typed_138 hl (by decide) rfl (fun ls hl => ?_)
    refine lv_goto (tgt := 188) hx hb dX5_typed_140 (by decide) ?_
    refine lv_iload hx hb dX5_typed_188 (lv_at hl 0 rfl) ?_
    refine lv_if_ge (tgt := 207) hx hb dX5_typed_190 (by decide) (fun c_71 => ?_) (fun c_71 => ?_)
    · skip
      refine lv_iload hx hb dX5_typed_207 (lv_at hl 0 rfl) ?_
      exact c_iret (v := r_63) hx hb hr hK hP hD hS hC hh hpp ⟨aw_67t, tx_70⟩ dX5_typed_209 hlocks
    · skip
      refine lv_aload_n hx hb dX5_typed_193 rfl (lv_at hl 1 rfl) ?_
      refine va_get (D := gD G) (ci := 5) (v := .int (S_64.1 13)) (C := RX5) (T := TX5) (N := 15) hx hb htu cu_in5 hown hK hP 4 cw_4 rfl 13 (by decide) (htu _ C_58) (fun _ h9 => h9) rfl dX5_typed_194 ?_
      refine lv_bipush (v := (-9)) hx hb dX5_typed_197 (by decide) ?_
      refine lv_icmp_ne (tgt := 207) hx hb dX5_typed_199 (by decide) (fun c_72 => ?_) (fun c_72 => ?_)
      · skip
        refine lv_iload hx hb dX5_typed_207 (lv_at hl 0 rfl) ?_
        exact c_iret (v := r_63) hx hb hr hK hP hD hS hC hh hpp ⟨aw_67t, tx_70⟩ dX5_typed_209 hlocks
      · skip
        refine lv_aload_n hx hb dX5_typed_202 rfl (lv_at hl 1 rfl) ?_
        refine lv_iload_n hx hb dX5_typed_203 rfl (lv_at hl 2 rfl) ?_
        refine c_put4_13 (x := n) hx hb htu hown hK hP hD hS (htu _ C_58) dX5_typed_204 (fun H locs hP hD hS => ?_)
        have S_73h : HS S (cO S_64 13 n) := hh
        have S_73c : CL (cO S_64 13 n) := hC
        have S_73p : PT S ≤ PT (cO S_64 13 n) := hpp
        refine c_eq (S1 := S_64) (S2 := cO S_64 13 n) rfl ?_
        have S_73w : AW [6, 7, 8, 9, 16, 14, 10, 11, 12, 13, 17, 18, 23, 24, 25, 26, 35] [8, 9, 10, 12, 13] S (cO S_64 13 n) := (AW.o aw_67t (by decide))
        have hh := S_73h
        have hC := S_73c
        have hpp := S_73p
        have tj_74 : TJ (cO S_64 13 n) N := tj_69
        refine lv_iload hx hb dX5_typed_207 (lv_at hl 0 rfl) ?_
        exact c_iret (v := r_63) hx hb hr hK hP hD hS hC hh hpp ⟨S_73w, (TX.o13 tx_70)⟩ dX5_typed_209 hlocks
  rcases Decidable.em (r_2 = 7) with c_75 | c_75
  · skip
    refine lv_tableIn (tgt := 143) hx hb dX5_typed_18 (by rw [c_75]; decide) (by rw [c_75]; decide) (by rw [c_75]; rfl) (by decide) ?_
    refine lv_aload_n hx hb dX5_typed_143 rfl (lv_at hl 1 rfl) ?_
    refine lv_iload_n hx hb dX5_typed_144 rfl (lv_at hl 2 rfl) ?_
    refine lv_iload_n hx hb dX5_typed_145 rfl (lv_at hl 3 rfl) ?_
    refine lv_iload_n hx hb dX5_typed_146 rfl (lv_at hl 4 rfl) ?_
    have hC0 := hC
    refine c_ci (c_runV (As := [.int n, .int (nI lv), .int (nI dp)]) (rest := []) (q0 := 4) (ci := 5) ⟨hx, hb, hml, hown, htu⟩ (g_typedLet l G S fu T V X Y Z q N dp lv n hC ih hU hq h15 hT hdp hlv hY2 H) (cwV 3 htu hU_X5_109 rfl rfl rfl (by decide +kernel) ⟨show (2 * fu + 141) + 1 ≤ 2 * (fu + 1) + 140 by omega, show 8 + (5 + 11) + (60 * fu + 6530) ≤ 60 * (fu + 1) + 6500 by omega⟩) hP hK hD hC hpp cw_4 rfl rfl hl.1 rfl (lv_room (Nat.le_of_ble_eq_true rfl)) dX5_typed_147) hS hD hh hpp (fun r_76 S_77 H locs hw_78 hP hD hS hC hh hs_79 hpp => ?_)
    try dsimp only at hw_78
    have aw_80 : AW [6, 7, 8, 9, 16, 14, 10, 11, 12, 13, 17, 18, 23, 24, 25, 26, 35] [8, 9, 10, 12, 13] S S_77 := hw_78.1
    have aw_80t : AW [6, 7, 8, 9, 16, 14, 10, 11, 12, 13, 17, 18, 23, 24, 25, 26, 35] [8, 9, 10, 12, 13] S S_77 := AW.rf.tr (aw_80.mono (by decide) (by decide))
    have kk_81 : kK S_77 15 = 0 := (aw_80.2.1 15 (lt35 (by decide)) (by decide)).2.trans h15
    have tj_82 : TJ S_77 N := TJ.aw hT aw_80 (by decide)
    have tx_83 := hw_78.2
    refine lv_istore (lv' := [(4, .int r_76), (0, .ref (ga G 4)), (1, .int n), (2, .int (nI lv)), (3, .int (nI dp))]) hx hb dX5_typed_150 hl (by decide) rfl (fun ls hl => ?_)
    refine lv_goto (tgt := 188) hx hb dX5_typed_152 (by decide) ?_
    refine lv_iload hx hb dX5_typed_188 (lv_at hl 0 rfl) ?_
    refine lv_if_ge (tgt := 207) hx hb dX5_typed_190 (by decide) (fun c_84 => ?_) (fun c_84 => ?_)
    · skip
      refine lv_iload hx hb dX5_typed_207 (lv_at hl 0 rfl) ?_
      exact c_iret (v := r_76) hx hb hr hK hP hD hS hC hh hpp ⟨aw_80t, tx_83⟩ dX5_typed_209 hlocks
    · skip
      refine lv_aload_n hx hb dX5_typed_193 rfl (lv_at hl 1 rfl) ?_
      refine va_get (D := gD G) (ci := 5) (v := .int (S_77.1 13)) (C := RX5) (T := TX5) (N := 15) hx hb htu cu_in5 hown hK hP 4 cw_4 rfl 13 (by decide) (htu _ C_58) (fun _ h9 => h9) rfl dX5_typed_194 ?_
      refine lv_bipush (v := (-9)) hx hb dX5_typed_197 (by decide) ?_
      refine lv_icmp_ne (tgt := 207) hx hb dX5_typed_199 (by decide) (fun c_85 => ?_) (fun c_85 => ?_)
      · skip
        refine lv_iload hx hb dX5_typed_207 (lv_at hl 0 rfl) ?_
        exact c_iret (v := r_76) hx hb hr hK hP hD hS hC hh hpp ⟨aw_80t, tx_83⟩ dX5_typed_209 hlocks
      · skip
        refine lv_aload_n hx hb dX5_typed_202 rfl (lv_at hl 1 rfl) ?_
        refine lv_iload_n hx hb dX5_typed_203 rfl (lv_at hl 2 rfl) ?_
        refine c_put4_13 (x := n) hx hb htu hown hK hP hD hS (htu _ C_58) dX5_typed_204 (fun H locs hP hD hS => ?_)
        have S_86h : HS S (cO S_77 13 n) := hh
        have S_86c : CL (cO S_77 13 n) := hC
        have S_86p : PT S ≤ PT (cO S_77 13 n) := hpp
        refine c_eq (S1 := S_77) (S2 := cO S_77 13 n) rfl ?_
        have S_86w : AW [6, 7, 8, 9, 16, 14, 10, 11, 12, 13, 17, 18, 23, 24, 25, 26, 35] [8, 9, 10, 12, 13] S (cO S_77 13 n) := (AW.o aw_80t (by decide))
        have hh := S_86h
        have hC := S_86c
        have hpp := S_86p
        have tj_87 : TJ (cO S_77 13 n) N := tj_82
        refine lv_iload hx hb dX5_typed_207 (lv_at hl 0 rfl) ?_
        exact c_iret (v := r_76) hx hb hr hK hP hD hS hC hh hpp ⟨S_86w, (TX.o13 tx_83)⟩ dX5_typed_209 hlocks
  rcases Decidable.em (r_2 = 8) with c_88 | c_88
  · skip
    refine lv_tableIn (tgt := 155) hx hb dX5_typed_18 (by rw [c_88]; decide) (by rw [c_88]; decide) (by rw [c_88]; rfl) (by decide) ?_
    refine lv_aload_n hx hb dX5_typed_155 rfl (lv_at hl 1 rfl) ?_
    refine lv_iload_n hx hb dX5_typed_156 rfl (lv_at hl 2 rfl) ?_
    refine lv_iload_n hx hb dX5_typed_157 rfl (lv_at hl 3 rfl) ?_
    refine lv_iload_n hx hb dX5_typed_158 rfl (lv_at hl 4 rfl) ?_
    have hC0 := hC
    refine c_ci (c_runV (As := [.int n, .int (nI lv), .int (nI dp)]) (rest := []) (q0 := 4) (ci := 5) ⟨hx, hb, hml, hown, htu⟩ (g_typedRec l G S fu T V X Y Z q N dp lv n hC ih hU hq h15 hT hdp hlv hY2 H) (cwV 3 htu hU_X5_112 rfl rfl rfl (by decide +kernel) ⟨show (2 * fu + 141) + 1 ≤ 2 * (fu + 1) + 140 by omega, show 8 + (7 + 11) + (60 * fu + 6530) ≤ 60 * (fu + 1) + 6500 by omega⟩) hP hK hD hC hpp cw_4 rfl rfl hl.1 rfl (lv_room (Nat.le_of_ble_eq_true rfl)) dX5_typed_159) hS hD hh hpp (fun r_89 S_90 H locs hw_91 hP hD hS hC hh hs_92 hpp => ?_)
    try dsimp only at hw_91
    have aw_93 : AW [6, 7, 8, 9, 16, 14, 10, 11, 12, 13, 17, 18, 23, 24, 25, 26, 35] [8, 9, 10, 12, 13] S S_90 := hw_91.1
    have aw_93t : AW [6, 7, 8, 9, 16, 14, 10, 11, 12, 13, 17, 18, 23, 24, 25, 26, 35] [8, 9, 10, 12, 13] S S_90 := AW.rf.tr (aw_93.mono (by decide) (by decide))
    have kk_94 : kK S_90 15 = 0 := (aw_93.2.1 15 (lt35 (by decide)) (by decide)).2.trans h15
    have tj_95 : TJ S_90 N := TJ.aw hT aw_93 (by decide)
    have tx_96 := hw_91.2
    refine lv_istore (lv' := [(4, .int r_89), (0, .ref (ga G 4)), (1, .int n), (2, .int (nI lv)), (3, .int (nI dp))]) hx hb dX5_typed_162 hl (by decide) rfl (fun ls hl => ?_)
    refine lv_goto (tgt := 188) hx hb dX5_typed_164 (by decide) ?_
    refine lv_iload hx hb dX5_typed_188 (lv_at hl 0 rfl) ?_
    refine lv_if_ge (tgt := 207) hx hb dX5_typed_190 (by decide) (fun c_97 => ?_) (fun c_97 => ?_)
    · skip
      refine lv_iload hx hb dX5_typed_207 (lv_at hl 0 rfl) ?_
      exact c_iret (v := r_89) hx hb hr hK hP hD hS hC hh hpp ⟨aw_93t, tx_96⟩ dX5_typed_209 hlocks
    · skip
      refine lv_aload_n hx hb dX5_typed_193 rfl (lv_at hl 1 rfl) ?_
      refine va_get (D := gD G) (ci := 5) (v := .int (S_90.1 13)) (C := RX5) (T := TX5) (N := 15) hx hb htu cu_in5 hown hK hP 4 cw_4 rfl 13 (by decide) (htu _ C_58) (fun _ h9 => h9) rfl dX5_typed_194 ?_
      refine lv_bipush (v := (-9)) hx hb dX5_typed_197 (by decide) ?_
      refine lv_icmp_ne (tgt := 207) hx hb dX5_typed_199 (by decide) (fun c_98 => ?_) (fun c_98 => ?_)
      · skip
        refine lv_iload hx hb dX5_typed_207 (lv_at hl 0 rfl) ?_
        exact c_iret (v := r_89) hx hb hr hK hP hD hS hC hh hpp ⟨aw_93t, tx_96⟩ dX5_typed_209 hlocks
      · skip
        refine lv_aload_n hx hb dX5_typed_202 rfl (lv_at hl 1 rfl) ?_
        refine lv_iload_n hx hb dX5_typed_203 rfl (lv_at hl 2 rfl) ?_
        refine c_put4_13 (x := n) hx hb htu hown hK hP hD hS (htu _ C_58) dX5_typed_204 (fun H locs hP hD hS => ?_)
        have S_99h : HS S (cO S_90 13 n) := hh
        have S_99c : CL (cO S_90 13 n) := hC
        have S_99p : PT S ≤ PT (cO S_90 13 n) := hpp
        refine c_eq (S1 := S_90) (S2 := cO S_90 13 n) rfl ?_
        have S_99w : AW [6, 7, 8, 9, 16, 14, 10, 11, 12, 13, 17, 18, 23, 24, 25, 26, 35] [8, 9, 10, 12, 13] S (cO S_90 13 n) := (AW.o aw_93t (by decide))
        have hh := S_99h
        have hC := S_99c
        have hpp := S_99p
        have tj_100 : TJ (cO S_90 13 n) N := tj_95
        refine lv_iload hx hb dX5_typed_207 (lv_at hl 0 rfl) ?_
        exact c_iret (v := r_89) hx hb hr hK hP hD hS hC hh hpp ⟨S_99w, (TX.o13 tx_96)⟩ dX5_typed_209 hlocks
  rcases Decidable.em (r_2 = 9) with c_101 | c_101
  · skip
    refine lv_tableIn (tgt := 167) hx hb dX5_typed_18 (by rw [c_101]; decide) (by rw [c_101]; decide) (by rw [c_101]; rfl) (by decide) ?_
    refine lv_aload_n hx hb dX5_typed_167 rfl (lv_at hl 1 rfl) ?_
    refine lv_iload_n hx hb dX5_typed_168 rfl (lv_at hl 2 rfl) ?_
    refine lv_iload_n hx hb dX5_typed_169 rfl (lv_at hl 3 rfl) ?_
    refine lv_iload_n hx hb dX5_typed_170 rfl (lv_at hl 4 rfl) ?_
    have hC0 := hC
    refine c_ci (c_runV (As := [.int n, .int (nI lv), .int (nI dp)]) (rest := []) (q0 := 4) (ci := 5) ⟨hx, hb, hml, hown, htu⟩ (g_typedPick l G S fu T V X Y Z q N dp lv n hC ih hU hq h15 hT hdp hlv hY2 H) (cwV 3 htu hU_X5_115 rfl rfl rfl (by decide +kernel) ⟨show (2 * fu + 141) + 1 ≤ 2 * (fu + 1) + 140 by omega, show 8 + (9 + 11) + (60 * fu + 6530) ≤ 60 * (fu + 1) + 6500 by omega⟩) hP hK hD hC hpp cw_4 rfl rfl hl.1 rfl (lv_room (Nat.le_of_ble_eq_true rfl)) dX5_typed_171) hS hD hh hpp (fun r_102 S_103 H locs hw_104 hP hD hS hC hh hs_105 hpp => ?_)
    try dsimp only at hw_104
    have aw_106 : AW [6, 7, 8, 9, 16, 14, 10, 11, 12, 13, 17, 18, 23, 24, 25, 26, 35] [8, 9, 10, 12, 13] S S_103 := hw_104.1
    have aw_106t : AW [6, 7, 8, 9, 16, 14, 10, 11, 12, 13, 17, 18, 23, 24, 25, 26, 35] [8, 9, 10, 12, 13] S S_103 := AW.rf.tr (aw_106.mono (by decide) (by decide))
    have kk_107 : kK S_103 15 = 0 := (aw_106.2.1 15 (lt35 (by decide)) (by decide)).2.trans h15
    have tj_108 : TJ S_103 N := TJ.aw hT aw_106 (by decide)
    have tx_109 := hw_104.2
    refine lv_istore (lv' := [(4, .int r_102), (0, .ref (ga G 4)), (1, .int n), (2, .int (nI lv)), (3, .int (nI dp))]) hx hb dX5_typed_174 hl (by decide) rfl (fun ls hl => ?_)
    refine lv_goto (tgt := 188) hx hb dX5_typed_176 (by decide) ?_
    refine lv_iload hx hb dX5_typed_188 (lv_at hl 0 rfl) ?_
    refine lv_if_ge (tgt := 207) hx hb dX5_typed_190 (by decide) (fun c_110 => ?_) (fun c_110 => ?_)
    · skip
      refine lv_iload hx hb dX5_typed_207 (lv_at hl 0 rfl) ?_
      exact c_iret (v := r_102) hx hb hr hK hP hD hS hC hh hpp ⟨aw_106t, tx_109⟩ dX5_typed_209 hlocks
    · skip
      refine lv_aload_n hx hb dX5_typed_193 rfl (lv_at hl 1 rfl) ?_
      refine va_get (D := gD G) (ci := 5) (v := .int (S_103.1 13)) (C := RX5) (T := TX5) (N := 15) hx hb htu cu_in5 hown hK hP 4 cw_4 rfl 13 (by decide) (htu _ C_58) (fun _ h9 => h9) rfl dX5_typed_194 ?_
      refine lv_bipush (v := (-9)) hx hb dX5_typed_197 (by decide) ?_
      refine lv_icmp_ne (tgt := 207) hx hb dX5_typed_199 (by decide) (fun c_111 => ?_) (fun c_111 => ?_)
      · skip
        refine lv_iload hx hb dX5_typed_207 (lv_at hl 0 rfl) ?_
        exact c_iret (v := r_102) hx hb hr hK hP hD hS hC hh hpp ⟨aw_106t, tx_109⟩ dX5_typed_209 hlocks
      · skip
        refine lv_aload_n hx hb dX5_typed_202 rfl (lv_at hl 1 rfl) ?_
        refine lv_iload_n hx hb dX5_typed_203 rfl (lv_at hl 2 rfl) ?_
        refine c_put4_13 (x := n) hx hb htu hown hK hP hD hS (htu _ C_58) dX5_typed_204 (fun H locs hP hD hS => ?_)
        have S_112h : HS S (cO S_103 13 n) := hh
        have S_112c : CL (cO S_103 13 n) := hC
        have S_112p : PT S ≤ PT (cO S_103 13 n) := hpp
        refine c_eq (S1 := S_103) (S2 := cO S_103 13 n) rfl ?_
        have S_112w : AW [6, 7, 8, 9, 16, 14, 10, 11, 12, 13, 17, 18, 23, 24, 25, 26, 35] [8, 9, 10, 12, 13] S (cO S_103 13 n) := (AW.o aw_106t (by decide))
        have hh := S_112h
        have hC := S_112c
        have hpp := S_112p
        have tj_113 : TJ (cO S_103 13 n) N := tj_108
        refine lv_iload hx hb dX5_typed_207 (lv_at hl 0 rfl) ?_
        exact c_iret (v := r_102) hx hb hr hK hP hD hS hC hh hpp ⟨S_112w, (TX.o13 tx_109)⟩ dX5_typed_209 hlocks
  have hout : (r_2).toInt < 0 ∨ 9 < (r_2).toInt := tb_out r_2 0 9 (fun z h1 h2 e => by
    rcases (show z = 0 ∨ z = 1 ∨ z = 2 ∨ z = 3 ∨ z = 4 ∨ z = 5 ∨ z = 6 ∨ z = 7 ∨ z = 8 ∨ z = 9 by omega) with rfl | rfl | rfl | rfl | rfl | rfl | rfl | rfl | rfl | rfl
    · exact c_6 (Int32.toInt_inj.mp (e.trans (by decide)))
    · exact c_8 (Int32.toInt_inj.mp (e.trans (by decide)))
    · exact c_10 (Int32.toInt_inj.mp (e.trans (by decide)))
    · exact c_23 (Int32.toInt_inj.mp (e.trans (by decide)))
    · exact c_36 (Int32.toInt_inj.mp (e.trans (by decide)))
    · exact c_49 (Int32.toInt_inj.mp (e.trans (by decide)))
    · exact c_62 (Int32.toInt_inj.mp (e.trans (by decide)))
    · exact c_75 (Int32.toInt_inj.mp (e.trans (by decide)))
    · exact c_88 (Int32.toInt_inj.mp (e.trans (by decide)))
    · exact c_101 (Int32.toInt_inj.mp (e.trans (by decide))))
  refine lv_tableOut (tgt := 179) hx hb dX5_typed_18 hout (by decide) ?_
  refine lv_aload_n hx hb dX5_typed_179 rfl (lv_at hl 1 rfl) ?_
  refine lv_iload_n hx hb dX5_typed_180 rfl (lv_at hl 2 rfl) ?_
  refine lv_iload_n hx hb dX5_typed_181 rfl (lv_at hl 3 rfl) ?_
  refine lv_iload_n hx hb dX5_typed_182 rfl (lv_at hl 4 rfl) ?_
  have hC0 := hC
  refine c_ci (c_runV (As := [.int n, .int (nI lv), .int (nI dp)]) (rest := []) (q0 := 4) (ci := 5) ⟨hx, hb, hml, hown, htu⟩ (g_typedWholes l G S fu T V X Y Z q N dp lv n hC ih hU hq h15 hT hdp hlv hY2 H) (cwV 3 htu hU_X5_118 rfl rfl rfl (by decide +kernel) ⟨show (2 * fu + 141) + 1 ≤ 2 * (fu + 1) + 140 by omega, show 8 + (7 + 11) + (60 * fu + 6530) ≤ 60 * (fu + 1) + 6500 by omega⟩) hP hK hD hC hpp cw_4 rfl rfl hl.1 rfl (lv_room (Nat.le_of_ble_eq_true rfl)) dX5_typed_183) hS hD hh hpp (fun r_114 S_115 H locs hw_116 hP hD hS hC hh hs_117 hpp => ?_)
  try dsimp only at hw_116
  have aw_118 : AW [6, 7, 8, 9, 16, 14, 10, 11, 12, 13, 17, 18, 23, 24, 25, 26, 35] [8, 9, 10, 12, 13] S S_115 := hw_116.1
  have aw_118t : AW [6, 7, 8, 9, 16, 14, 10, 11, 12, 13, 17, 18, 23, 24, 25, 26, 35] [8, 9, 10, 12, 13] S S_115 := AW.rf.tr (aw_118.mono (by decide) (by decide))
  have kk_119 : kK S_115 15 = 0 := (aw_118.2.1 15 (lt35 (by decide)) (by decide)).2.trans h15
  have tj_120 : TJ S_115 N := TJ.aw hT aw_118 (by decide)
  have tx_121 := hw_116.2
  refine lv_istore (lv' := [(4, .int r_114), (0, .ref (ga G 4)), (1, .int n), (2, .int (nI lv)), (3, .int (nI dp))]) hx hb dX5_typed_186 hl (by decide) rfl (fun ls hl => ?_)
  refine lv_iload hx hb dX5_typed_188 (lv_at hl 0 rfl) ?_
  refine lv_if_ge (tgt := 207) hx hb dX5_typed_190 (by decide) (fun c_122 => ?_) (fun c_122 => ?_)
  · skip
    refine lv_iload hx hb dX5_typed_207 (lv_at hl 0 rfl) ?_
    exact c_iret (v := r_114) hx hb hr hK hP hD hS hC hh hpp ⟨aw_118t, tx_121⟩ dX5_typed_209 hlocks
  · skip
    refine lv_aload_n hx hb dX5_typed_193 rfl (lv_at hl 1 rfl) ?_
    refine va_get (D := gD G) (ci := 5) (v := .int (S_115.1 13)) (C := RX5) (T := TX5) (N := 15) hx hb htu cu_in5 hown hK hP 4 cw_4 rfl 13 (by decide) (htu _ C_58) (fun _ h9 => h9) rfl dX5_typed_194 ?_
    refine lv_bipush (v := (-9)) hx hb dX5_typed_197 (by decide) ?_
    refine lv_icmp_ne (tgt := 207) hx hb dX5_typed_199 (by decide) (fun c_123 => ?_) (fun c_123 => ?_)
    · skip
      refine lv_iload hx hb dX5_typed_207 (lv_at hl 0 rfl) ?_
      exact c_iret (v := r_114) hx hb hr hK hP hD hS hC hh hpp ⟨aw_118t, tx_121⟩ dX5_typed_209 hlocks
    · skip
      refine lv_aload_n hx hb dX5_typed_202 rfl (lv_at hl 1 rfl) ?_
      refine lv_iload_n hx hb dX5_typed_203 rfl (lv_at hl 2 rfl) ?_
      refine c_put4_13 (x := n) hx hb htu hown hK hP hD hS (htu _ C_58) dX5_typed_204 (fun H locs hP hD hS => ?_)
      have S_124h : HS S (cO S_115 13 n) := hh
      have S_124c : CL (cO S_115 13 n) := hC
      have S_124p : PT S ≤ PT (cO S_115 13 n) := hpp
      refine c_eq (S1 := S_115) (S2 := cO S_115 13 n) rfl ?_
      have S_124w : AW [6, 7, 8, 9, 16, 14, 10, 11, 12, 13, 17, 18, 23, 24, 25, 26, 35] [8, 9, 10, 12, 13] S (cO S_115 13 n) := (AW.o aw_118t (by decide))
      have hh := S_124h
      have hC := S_124c
      have hpp := S_124p
      have tj_125 : TJ (cO S_115 13 n) N := tj_120
      refine lv_iload hx hb dX5_typed_207 (lv_at hl 0 rfl) ?_
      exact c_iret (v := r_114) hx hb hr hK hP hD hS hC hh hpp ⟨S_124w, (TX.o13 tx_121)⟩ dX5_typed_209 hlocks

theorem g_typed_all : ∀ fu, cTypedAt fu := by
  intro fu
  induction fu with
  | zero => exact fun l G S T V X Y Z q N dp lv n hC hU hq h15 hT hdp hlv hY2 Hs => g_typed_0 l G S T V X Y Z q N dp lv n hC hU hq h15 hT hdp hlv hY2 Hs
  | succ fu ih => exact fun l G S T V X Y Z q N dp lv n hC hU hq h15 hT hdp hlv hY2 Hs => g_typed_s l G S fu T V X Y Z q N dp lv n hC ih hU hq h15 hT hdp hlv hY2 Hs

