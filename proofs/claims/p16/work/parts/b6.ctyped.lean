theorem dX5_typedName_0 : decode cX5_typedName 0 = .ok (.aload_n 0, 1) := by decide +kernel
theorem dX5_typedName_1 : decode cX5_typedName 1 = .ok (.getfield 64, 3) := by decide +kernel
theorem dX5_typedName_4 : decode cX5_typedName 4 = .ok (.iload_n 1, 1) := by decide +kernel
theorem dX5_typedName_5 : decode cX5_typedName 5 = .ok (.aload_n 0, 1) := by decide +kernel
theorem dX5_typedName_6 : decode cX5_typedName 6 = .ok (.getfield 54, 3) := by decide +kernel
theorem dX5_typedName_9 : decode cX5_typedName 9 = .ok (.invokevirtual 121, 3) := by decide +kernel
theorem dX5_typedName_12 : decode cX5_typedName 12 = .ok (.istore_n 3, 1) := by decide +kernel
theorem dX5_typedName_13 : decode cX5_typedName 13 = .ok (.iload_n 3, 1) := by decide +kernel
theorem dX5_typedName_14 : decode cX5_typedName 14 = .ok (.bipush (-9), 2) := by decide +kernel
theorem dX5_typedName_16 : decode cX5_typedName 16 = .ok (.if_icmp .ne 6, 3) := by decide +kernel
theorem dX5_typedName_22 : decode cX5_typedName 22 = .ok (.aload_n 0, 1) := by decide +kernel
theorem dX5_typedName_23 : decode cX5_typedName 23 = .ok (.getfield 41, 3) := by decide +kernel
theorem dX5_typedName_26 : decode cX5_typedName 26 = .ok (.iload_n 3, 1) := by decide +kernel
theorem dX5_typedName_27 : decode cX5_typedName 27 = .ok (.invokevirtual 124, 3) := by decide +kernel
theorem dX5_typedName_30 : decode cX5_typedName 30 = .ok (.istore 4, 2) := by decide +kernel
theorem dX5_typedName_32 : decode cX5_typedName 32 = .ok (.aload_n 0, 1) := by decide +kernel
theorem dX5_typedName_33 : decode cX5_typedName 33 = .ok (.getfield 45, 3) := by decide +kernel
theorem dX5_typedName_36 : decode cX5_typedName 36 = .ok (.iload_n 3, 1) := by decide +kernel
theorem dX5_typedName_37 : decode cX5_typedName 37 = .ok (.invokevirtual 124, 3) := by decide +kernel
theorem dX5_typedName_40 : decode cX5_typedName 40 = .ok (.istore 5, 2) := by decide +kernel
theorem dX5_typedName_42 : decode cX5_typedName 42 = .ok (.iload 5, 2) := by decide +kernel
theorem dX5_typedName_44 : decode cX5_typedName 44 = .ok (.iconst (-1), 1) := by decide +kernel
theorem dX5_typedName_45 : decode cX5_typedName 45 = .ok (.if_icmp .ne 6, 3) := by decide +kernel
theorem dX5_typedName_51 : decode cX5_typedName 51 = .ok (.aload_n 0, 1) := by decide +kernel
theorem dX5_typedName_52 : decode cX5_typedName 52 = .ok (.iload 5, 2) := by decide +kernel
theorem dX5_typedName_54 : decode cX5_typedName 54 = .ok (.iload_n 2, 1) := by decide +kernel
theorem dX5_typedName_55 : decode cX5_typedName 55 = .ok (.invokevirtual 127, 3) := by decide +kernel
theorem dX5_typedName_58 : decode cX5_typedName 58 = .ok (.aload_n 0, 1) := by decide +kernel
theorem dX5_typedName_59 : decode cX5_typedName 59 = .ok (.iload 4, 2) := by decide +kernel
theorem dX5_typedName_61 : decode cX5_typedName 61 = .ok (.iconst 2, 1) := by decide +kernel
theorem dX5_typedName_62 : decode cX5_typedName 62 = .ok (.iconst 1, 1) := by decide +kernel
theorem dX5_typedName_63 : decode cX5_typedName 63 = .ok (.invokevirtual 131, 3) := by decide +kernel
theorem dX5_typedName_66 : decode cX5_typedName 66 = .ok (.ireturn, 1) := by decide +kernel
theorem dX5_typedName_48 : decode cX5_typedName 48 = .ok (.iload 4, 2) := by decide +kernel
theorem dX5_typedName_50 : decode cX5_typedName 50 = .ok (.ireturn, 1) := by decide +kernel
theorem dX5_typedName_19 : decode cX5_typedName 19 = .ok (.bipush (-7), 2) := by decide +kernel
theorem dX5_typedName_21 : decode cX5_typedName 21 = .ok (.ireturn, 1) := by decide +kernel
theorem dX5_typedFunction_0 : decode cX5_typedFunction 0 = .ok (.aload_n 0, 1) := by decide +kernel
theorem dX5_typedFunction_1 : decode cX5_typedFunction 1 = .ok (.getfield 12, 3) := by decide +kernel
theorem dX5_typedFunction_4 : decode cX5_typedFunction 4 = .ok (.iload_n 2, 1) := by decide +kernel
theorem dX5_typedFunction_5 : decode cX5_typedFunction 5 = .ok (.invokevirtual 137, 3) := by decide +kernel
theorem dX5_typedFunction_8 : decode cX5_typedFunction 8 = .ok (.istore 4, 2) := by decide +kernel
theorem dX5_typedFunction_10 : decode cX5_typedFunction 10 = .ok (.iload 4, 2) := by decide +kernel
theorem dX5_typedFunction_12 : decode cX5_typedFunction 12 = .ok (.ifCond .ge 6, 3) := by decide +kernel
theorem dX5_typedFunction_15 : decode cX5_typedFunction 15 = .ok (.iload 4, 2) := by decide +kernel
theorem dX5_typedFunction_17 : decode cX5_typedFunction 17 = .ok (.ireturn, 1) := by decide +kernel
theorem dX5_typedFunction_18 : decode cX5_typedFunction 18 = .ok (.aload_n 0, 1) := by decide +kernel
theorem dX5_typedFunction_19 : decode cX5_typedFunction 19 = .ok (.iload_n 1, 1) := by decide +kernel
theorem dX5_typedFunction_20 : decode cX5_typedFunction 20 = .ok (.iload 4, 2) := by decide +kernel
theorem dX5_typedFunction_22 : decode cX5_typedFunction 22 = .ok (.iconst (-1), 1) := by decide +kernel
theorem dX5_typedFunction_23 : decode cX5_typedFunction 23 = .ok (.invokevirtual 140, 3) := by decide +kernel
theorem dX5_typedFunction_26 : decode cX5_typedFunction 26 = .ok (.aload_n 0, 1) := by decide +kernel
theorem dX5_typedFunction_27 : decode cX5_typedFunction 27 = .ok (.aload_n 0, 1) := by decide +kernel
theorem dX5_typedFunction_28 : decode cX5_typedFunction 28 = .ok (.getfield 64, 3) := by decide +kernel
theorem dX5_typedFunction_31 : decode cX5_typedFunction 31 = .ok (.iload_n 1, 1) := by decide +kernel
theorem dX5_typedFunction_32 : decode cX5_typedFunction 32 = .ok (.iconst 0, 1) := by decide +kernel
theorem dX5_typedFunction_33 : decode cX5_typedFunction 33 = .ok (.invokevirtual 144, 3) := by decide +kernel
theorem dX5_typedFunction_36 : decode cX5_typedFunction 36 = .ok (.iload_n 2, 1) := by decide +kernel
theorem dX5_typedFunction_37 : decode cX5_typedFunction 37 = .ok (.iload_n 3, 1) := by decide +kernel
theorem dX5_typedFunction_38 : decode cX5_typedFunction 38 = .ok (.iconst 1, 1) := by decide +kernel
theorem dX5_typedFunction_39 : decode cX5_typedFunction 39 = .ok (.iadd, 1) := by decide +kernel
theorem dX5_typedFunction_40 : decode cX5_typedFunction 40 = .ok (.invokevirtual 77, 3) := by decide +kernel
theorem dX5_typedFunction_43 : decode cX5_typedFunction 43 = .ok (.istore 5, 2) := by decide +kernel
theorem dX5_typedFunction_45 : decode cX5_typedFunction 45 = .ok (.iload 5, 2) := by decide +kernel
theorem dX5_typedFunction_47 : decode cX5_typedFunction 47 = .ok (.ifCond .ge 8, 3) := by decide +kernel
theorem dX5_typedFunction_55 : decode cX5_typedFunction 55 = .ok (.aload_n 0, 1) := by decide +kernel
theorem dX5_typedFunction_56 : decode cX5_typedFunction 56 = .ok (.getfield 12, 3) := by decide +kernel
theorem dX5_typedFunction_59 : decode cX5_typedFunction 59 = .ok (.iload 4, 2) := by decide +kernel
theorem dX5_typedFunction_61 : decode cX5_typedFunction 61 = .ok (.iload 5, 2) := by decide +kernel
theorem dX5_typedFunction_63 : decode cX5_typedFunction 63 = .ok (.invokevirtual 147, 3) := by decide +kernel
theorem dX5_typedFunction_66 : decode cX5_typedFunction 66 = .ok (.ireturn, 1) := by decide +kernel
theorem dX5_typedFunction_50 : decode cX5_typedFunction 50 = .ok (.iload 5, 2) := by decide +kernel
theorem dX5_typedFunction_52 : decode cX5_typedFunction 52 = .ok (.goto 14, 3) := by decide +kernel
theorem dX5_typedApply_0 : decode cX5_typedApply 0 = .ok (.aload_n 0, 1) := by decide +kernel
theorem dX5_typedApply_1 : decode cX5_typedApply 1 = .ok (.aload_n 0, 1) := by decide +kernel
theorem dX5_typedApply_2 : decode cX5_typedApply 2 = .ok (.getfield 64, 3) := by decide +kernel
theorem dX5_typedApply_5 : decode cX5_typedApply 5 = .ok (.iload_n 1, 1) := by decide +kernel
theorem dX5_typedApply_6 : decode cX5_typedApply 6 = .ok (.iconst 0, 1) := by decide +kernel
theorem dX5_typedApply_7 : decode cX5_typedApply 7 = .ok (.invokevirtual 144, 3) := by decide +kernel
theorem dX5_typedApply_10 : decode cX5_typedApply 10 = .ok (.iload_n 2, 1) := by decide +kernel
theorem dX5_typedApply_11 : decode cX5_typedApply 11 = .ok (.iload_n 3, 1) := by decide +kernel
theorem dX5_typedApply_12 : decode cX5_typedApply 12 = .ok (.iconst 1, 1) := by decide +kernel
theorem dX5_typedApply_13 : decode cX5_typedApply 13 = .ok (.iadd, 1) := by decide +kernel
theorem dX5_typedApply_14 : decode cX5_typedApply 14 = .ok (.invokevirtual 77, 3) := by decide +kernel
theorem dX5_typedApply_17 : decode cX5_typedApply 17 = .ok (.istore 4, 2) := by decide +kernel
theorem dX5_typedApply_19 : decode cX5_typedApply 19 = .ok (.iload 4, 2) := by decide +kernel
theorem dX5_typedApply_21 : decode cX5_typedApply 21 = .ok (.ifCond .ge 6, 3) := by decide +kernel
theorem dX5_typedApply_27 : decode cX5_typedApply 27 = .ok (.aload_n 0, 1) := by decide +kernel
theorem dX5_typedApply_28 : decode cX5_typedApply 28 = .ok (.aload_n 0, 1) := by decide +kernel
theorem dX5_typedApply_29 : decode cX5_typedApply 29 = .ok (.getfield 64, 3) := by decide +kernel
theorem dX5_typedApply_32 : decode cX5_typedApply 32 = .ok (.iload_n 1, 1) := by decide +kernel
theorem dX5_typedApply_33 : decode cX5_typedApply 33 = .ok (.iconst 1, 1) := by decide +kernel
theorem dX5_typedApply_34 : decode cX5_typedApply 34 = .ok (.invokevirtual 144, 3) := by decide +kernel
theorem dX5_typedApply_37 : decode cX5_typedApply 37 = .ok (.iload_n 2, 1) := by decide +kernel
theorem dX5_typedApply_38 : decode cX5_typedApply 38 = .ok (.iload_n 3, 1) := by decide +kernel
theorem dX5_typedApply_39 : decode cX5_typedApply 39 = .ok (.iconst 1, 1) := by decide +kernel
theorem dX5_typedApply_40 : decode cX5_typedApply 40 = .ok (.iadd, 1) := by decide +kernel
theorem dX5_typedApply_41 : decode cX5_typedApply 41 = .ok (.invokevirtual 77, 3) := by decide +kernel
theorem dX5_typedApply_44 : decode cX5_typedApply 44 = .ok (.istore 5, 2) := by decide +kernel
theorem dX5_typedApply_46 : decode cX5_typedApply 46 = .ok (.iload 5, 2) := by decide +kernel
theorem dX5_typedApply_48 : decode cX5_typedApply 48 = .ok (.ifCond .ge 6, 3) := by decide +kernel
theorem dX5_typedApply_54 : decode cX5_typedApply 54 = .ok (.aload_n 0, 1) := by decide +kernel
theorem dX5_typedApply_55 : decode cX5_typedApply 55 = .ok (.getfield 12, 3) := by decide +kernel
theorem dX5_typedApply_58 : decode cX5_typedApply 58 = .ok (.iload_n 2, 1) := by decide +kernel
theorem dX5_typedApply_59 : decode cX5_typedApply 59 = .ok (.invokevirtual 137, 3) := by decide +kernel
theorem dX5_typedApply_62 : decode cX5_typedApply 62 = .ok (.istore 6, 2) := by decide +kernel
theorem dX5_typedApply_64 : decode cX5_typedApply 64 = .ok (.iload 6, 2) := by decide +kernel
theorem dX5_typedApply_66 : decode cX5_typedApply 66 = .ok (.ifCond .ge 6, 3) := by decide +kernel
theorem dX5_typedApply_69 : decode cX5_typedApply 69 = .ok (.iload 6, 2) := by decide +kernel
theorem dX5_typedApply_71 : decode cX5_typedApply 71 = .ok (.ireturn, 1) := by decide +kernel
theorem dX5_typedApply_72 : decode cX5_typedApply 72 = .ok (.aload_n 0, 1) := by decide +kernel
theorem dX5_typedApply_73 : decode cX5_typedApply 73 = .ok (.getfield 12, 3) := by decide +kernel
theorem dX5_typedApply_76 : decode cX5_typedApply 76 = .ok (.iload 5, 2) := by decide +kernel
theorem dX5_typedApply_78 : decode cX5_typedApply 78 = .ok (.iload 6, 2) := by decide +kernel
theorem dX5_typedApply_80 : decode cX5_typedApply 80 = .ok (.invokevirtual 147, 3) := by decide +kernel
theorem dX5_typedApply_83 : decode cX5_typedApply 83 = .ok (.istore 7, 2) := by decide +kernel
theorem dX5_typedApply_85 : decode cX5_typedApply 85 = .ok (.iload 7, 2) := by decide +kernel
theorem dX5_typedApply_87 : decode cX5_typedApply 87 = .ok (.ifCond .ge 8, 3) := by decide +kernel
theorem dX5_typedApply_90 : decode cX5_typedApply 90 = .ok (.iload 7, 2) := by decide +kernel
theorem dX5_typedApply_92 : decode cX5_typedApply 92 = .ok (.goto 12, 3) := by decide +kernel
theorem dX5_typedApply_104 : decode cX5_typedApply 104 = .ok (.istore 8, 2) := by decide +kernel
theorem dX5_typedApply_106 : decode cX5_typedApply 106 = .ok (.iload 8, 2) := by decide +kernel
theorem dX5_typedApply_108 : decode cX5_typedApply 108 = .ok (.ifCond .ge 8, 3) := by decide +kernel
theorem dX5_typedApply_111 : decode cX5_typedApply 111 = .ok (.iload 8, 2) := by decide +kernel
theorem dX5_typedApply_113 : decode cX5_typedApply 113 = .ok (.goto 5, 3) := by decide +kernel
theorem dX5_typedApply_118 : decode cX5_typedApply 118 = .ok (.ireturn, 1) := by decide +kernel
theorem dX5_typedApply_95 : decode cX5_typedApply 95 = .ok (.aload_n 0, 1) := by decide +kernel
theorem dX5_typedApply_96 : decode cX5_typedApply 96 = .ok (.iload 4, 2) := by decide +kernel
theorem dX5_typedApply_98 : decode cX5_typedApply 98 = .ok (.iload 7, 2) := by decide +kernel
theorem dX5_typedApply_100 : decode cX5_typedApply 100 = .ok (.iconst 1, 1) := by decide +kernel
theorem dX5_typedApply_101 : decode cX5_typedApply 101 = .ok (.invokevirtual 150, 3) := by decide +kernel
theorem dX5_typedApply_116 : decode cX5_typedApply 116 = .ok (.iload 6, 2) := by decide +kernel
theorem dX5_typedApply_51 : decode cX5_typedApply 51 = .ok (.iload 5, 2) := by decide +kernel
theorem dX5_typedApply_53 : decode cX5_typedApply 53 = .ok (.ireturn, 1) := by decide +kernel
theorem dX5_typedApply_24 : decode cX5_typedApply 24 = .ok (.iload 4, 2) := by decide +kernel
theorem dX5_typedApply_26 : decode cX5_typedApply 26 = .ok (.ireturn, 1) := by decide +kernel
theorem dX5_typedRecord_0 : decode cX5_typedRecord 0 = .ok (.aload_n 0, 1) := by decide +kernel
theorem dX5_typedRecord_1 : decode cX5_typedRecord 1 = .ok (.getfield 12, 3) := by decide +kernel
theorem dX5_typedRecord_4 : decode cX5_typedRecord 4 = .ok (.invokevirtual 153, 3) := by decide +kernel
theorem dX5_typedRecord_7 : decode cX5_typedRecord 7 = .ok (.istore 4, 2) := by decide +kernel
theorem dX5_typedRecord_9 : decode cX5_typedRecord 9 = .ok (.aload_n 0, 1) := by decide +kernel
theorem dX5_typedRecord_10 : decode cX5_typedRecord 10 = .ok (.getfield 64, 3) := by decide +kernel
theorem dX5_typedRecord_13 : decode cX5_typedRecord 13 = .ok (.iload_n 1, 1) := by decide +kernel
theorem dX5_typedRecord_14 : decode cX5_typedRecord 14 = .ok (.invokevirtual 156, 3) := by decide +kernel
theorem dX5_typedRecord_17 : decode cX5_typedRecord 17 = .ok (.istore 5, 2) := by decide +kernel
theorem dX5_typedRecord_19 : decode cX5_typedRecord 19 = .ok (.iconst 0, 1) := by decide +kernel
theorem dX5_typedRecord_20 : decode cX5_typedRecord 20 = .ok (.istore 6, 2) := by decide +kernel
theorem dX5_typedRecord_22 : decode cX5_typedRecord 22 = .ok (.iload 6, 2) := by decide +kernel
theorem dX5_typedRecord_24 : decode cX5_typedRecord 24 = .ok (.iload 5, 2) := by decide +kernel
theorem dX5_typedRecord_26 : decode cX5_typedRecord 26 = .ok (.if_icmp .ge 56, 3) := by decide +kernel
theorem dX5_typedRecord_82 : decode cX5_typedRecord 82 = .ok (.aload_n 0, 1) := by decide +kernel
theorem dX5_typedRecord_83 : decode cX5_typedRecord 83 = .ok (.getfield 12, 3) := by decide +kernel
theorem dX5_typedRecord_86 : decode cX5_typedRecord 86 = .ok (.iload 4, 2) := by decide +kernel
theorem dX5_typedRecord_88 : decode cX5_typedRecord 88 = .ok (.invokevirtual 165, 3) := by decide +kernel
theorem dX5_typedRecord_91 : decode cX5_typedRecord 91 = .ok (.ireturn, 1) := by decide +kernel
theorem dX5_typedRecord_29 : decode cX5_typedRecord 29 = .ok (.aload_n 0, 1) := by decide +kernel
theorem dX5_typedRecord_30 : decode cX5_typedRecord 30 = .ok (.aload_n 0, 1) := by decide +kernel
theorem dX5_typedRecord_31 : decode cX5_typedRecord 31 = .ok (.getfield 64, 3) := by decide +kernel
theorem dX5_typedRecord_34 : decode cX5_typedRecord 34 = .ok (.iload_n 1, 1) := by decide +kernel
theorem dX5_typedRecord_35 : decode cX5_typedRecord 35 = .ok (.iload 6, 2) := by decide +kernel
theorem dX5_typedRecord_37 : decode cX5_typedRecord 37 = .ok (.invokevirtual 144, 3) := by decide +kernel
theorem dX5_typedRecord_40 : decode cX5_typedRecord 40 = .ok (.iload_n 2, 1) := by decide +kernel
theorem dX5_typedRecord_41 : decode cX5_typedRecord 41 = .ok (.iload_n 3, 1) := by decide +kernel
theorem dX5_typedRecord_42 : decode cX5_typedRecord 42 = .ok (.iconst 1, 1) := by decide +kernel
theorem dX5_typedRecord_43 : decode cX5_typedRecord 43 = .ok (.iadd, 1) := by decide +kernel
theorem dX5_typedRecord_44 : decode cX5_typedRecord 44 = .ok (.invokevirtual 77, 3) := by decide +kernel
theorem dX5_typedRecord_47 : decode cX5_typedRecord 47 = .ok (.istore 7, 2) := by decide +kernel
theorem dX5_typedRecord_49 : decode cX5_typedRecord 49 = .ok (.iload 7, 2) := by decide +kernel
theorem dX5_typedRecord_51 : decode cX5_typedRecord 51 = .ok (.ifCond .ge 6, 3) := by decide +kernel
theorem dX5_typedRecord_57 : decode cX5_typedRecord 57 = .ok (.aload_n 0, 1) := by decide +kernel
theorem dX5_typedRecord_58 : decode cX5_typedRecord 58 = .ok (.getfield 12, 3) := by decide +kernel
theorem dX5_typedRecord_61 : decode cX5_typedRecord 61 = .ok (.aload_n 0, 1) := by decide +kernel
theorem dX5_typedRecord_62 : decode cX5_typedRecord 62 = .ok (.getfield 64, 3) := by decide +kernel
theorem dX5_typedRecord_65 : decode cX5_typedRecord 65 = .ok (.iload_n 1, 1) := by decide +kernel
theorem dX5_typedRecord_66 : decode cX5_typedRecord 66 = .ok (.iload 6, 2) := by decide +kernel
theorem dX5_typedRecord_68 : decode cX5_typedRecord 68 = .ok (.invokevirtual 159, 3) := by decide +kernel
theorem dX5_typedRecord_71 : decode cX5_typedRecord 71 = .ok (.iload 7, 2) := by decide +kernel
theorem dX5_typedRecord_73 : decode cX5_typedRecord 73 = .ok (.invokevirtual 162, 3) := by decide +kernel
theorem dX5_typedRecord_76 : decode cX5_typedRecord 76 = .ok (.iinc 6 1, 3) := by decide +kernel
theorem dX5_typedRecord_79 : decode cX5_typedRecord 79 = .ok (.goto (-57), 3) := by decide +kernel
theorem dX5_typedRecord_54 : decode cX5_typedRecord 54 = .ok (.iload 7, 2) := by decide +kernel
theorem dX5_typedRecord_56 : decode cX5_typedRecord 56 = .ok (.ireturn, 1) := by decide +kernel
theorem dX5_typedField_0 : decode cX5_typedField 0 = .ok (.aload_n 0, 1) := by decide +kernel
theorem dX5_typedField_1 : decode cX5_typedField 1 = .ok (.aload_n 0, 1) := by decide +kernel
theorem dX5_typedField_2 : decode cX5_typedField 2 = .ok (.getfield 64, 3) := by decide +kernel
theorem dX5_typedField_5 : decode cX5_typedField 5 = .ok (.iload_n 1, 1) := by decide +kernel
theorem dX5_typedField_6 : decode cX5_typedField 6 = .ok (.iconst 0, 1) := by decide +kernel
theorem dX5_typedField_7 : decode cX5_typedField 7 = .ok (.invokevirtual 144, 3) := by decide +kernel
theorem dX5_typedField_10 : decode cX5_typedField 10 = .ok (.iload_n 2, 1) := by decide +kernel
theorem dX5_typedField_11 : decode cX5_typedField 11 = .ok (.iload_n 3, 1) := by decide +kernel
theorem dX5_typedField_12 : decode cX5_typedField 12 = .ok (.iconst 1, 1) := by decide +kernel
theorem dX5_typedField_13 : decode cX5_typedField 13 = .ok (.iadd, 1) := by decide +kernel
theorem dX5_typedField_14 : decode cX5_typedField 14 = .ok (.invokevirtual 77, 3) := by decide +kernel
theorem dX5_typedField_17 : decode cX5_typedField 17 = .ok (.istore 4, 2) := by decide +kernel
theorem dX5_typedField_19 : decode cX5_typedField 19 = .ok (.iload 4, 2) := by decide +kernel
theorem dX5_typedField_21 : decode cX5_typedField 21 = .ok (.ifCond .ge 6, 3) := by decide +kernel
theorem dX5_typedField_27 : decode cX5_typedField 27 = .ok (.aload_n 0, 1) := by decide +kernel
theorem dX5_typedField_28 : decode cX5_typedField 28 = .ok (.getfield 12, 3) := by decide +kernel
theorem dX5_typedField_31 : decode cX5_typedField 31 = .ok (.iload_n 2, 1) := by decide +kernel
theorem dX5_typedField_32 : decode cX5_typedField 32 = .ok (.invokevirtual 137, 3) := by decide +kernel
theorem dX5_typedField_35 : decode cX5_typedField 35 = .ok (.istore 5, 2) := by decide +kernel
theorem dX5_typedField_37 : decode cX5_typedField 37 = .ok (.iload 5, 2) := by decide +kernel
theorem dX5_typedField_39 : decode cX5_typedField 39 = .ok (.ifCond .ge 6, 3) := by decide +kernel
theorem dX5_typedField_42 : decode cX5_typedField 42 = .ok (.iload 5, 2) := by decide +kernel
theorem dX5_typedField_44 : decode cX5_typedField 44 = .ok (.ireturn, 1) := by decide +kernel
theorem dX5_typedField_45 : decode cX5_typedField 45 = .ok (.aload_n 0, 1) := by decide +kernel
theorem dX5_typedField_46 : decode cX5_typedField 46 = .ok (.getfield 12, 3) := by decide +kernel
theorem dX5_typedField_49 : decode cX5_typedField 49 = .ok (.invokevirtual 153, 3) := by decide +kernel
theorem dX5_typedField_52 : decode cX5_typedField 52 = .ok (.istore 6, 2) := by decide +kernel
theorem dX5_typedField_54 : decode cX5_typedField 54 = .ok (.aload_n 0, 1) := by decide +kernel
theorem dX5_typedField_55 : decode cX5_typedField 55 = .ok (.getfield 12, 3) := by decide +kernel
theorem dX5_typedField_58 : decode cX5_typedField 58 = .ok (.aload_n 0, 1) := by decide +kernel
theorem dX5_typedField_59 : decode cX5_typedField 59 = .ok (.getfield 64, 3) := by decide +kernel
theorem dX5_typedField_62 : decode cX5_typedField 62 = .ok (.iload_n 1, 1) := by decide +kernel
theorem dX5_typedField_63 : decode cX5_typedField 63 = .ok (.invokevirtual 168, 3) := by decide +kernel
theorem dX5_typedField_66 : decode cX5_typedField 66 = .ok (.iload 5, 2) := by decide +kernel
theorem dX5_typedField_68 : decode cX5_typedField 68 = .ok (.invokevirtual 162, 3) := by decide +kernel
theorem dX5_typedField_71 : decode cX5_typedField 71 = .ok (.aload_n 0, 1) := by decide +kernel
theorem dX5_typedField_72 : decode cX5_typedField 72 = .ok (.getfield 12, 3) := by decide +kernel
theorem dX5_typedField_75 : decode cX5_typedField 75 = .ok (.iload 6, 2) := by decide +kernel
theorem dX5_typedField_77 : decode cX5_typedField 77 = .ok (.invokevirtual 165, 3) := by decide +kernel
theorem dX5_typedField_80 : decode cX5_typedField 80 = .ok (.istore 7, 2) := by decide +kernel
theorem dX5_typedField_82 : decode cX5_typedField 82 = .ok (.iload 7, 2) := by decide +kernel
theorem dX5_typedField_84 : decode cX5_typedField 84 = .ok (.ifCond .ge 8, 3) := by decide +kernel
theorem dX5_typedField_87 : decode cX5_typedField 87 = .ok (.iload 7, 2) := by decide +kernel
theorem dX5_typedField_89 : decode cX5_typedField 89 = .ok (.goto 12, 3) := by decide +kernel
theorem dX5_typedField_101 : decode cX5_typedField 101 = .ok (.istore 8, 2) := by decide +kernel
theorem dX5_typedField_103 : decode cX5_typedField 103 = .ok (.iload 8, 2) := by decide +kernel
theorem dX5_typedField_105 : decode cX5_typedField 105 = .ok (.ifCond .ge 8, 3) := by decide +kernel
theorem dX5_typedField_108 : decode cX5_typedField 108 = .ok (.iload 8, 2) := by decide +kernel
theorem dX5_typedField_110 : decode cX5_typedField 110 = .ok (.goto 5, 3) := by decide +kernel
theorem dX5_typedField_115 : decode cX5_typedField 115 = .ok (.ireturn, 1) := by decide +kernel
theorem dX5_typedField_92 : decode cX5_typedField 92 = .ok (.aload_n 0, 1) := by decide +kernel
theorem dX5_typedField_93 : decode cX5_typedField 93 = .ok (.iload 4, 2) := by decide +kernel
theorem dX5_typedField_95 : decode cX5_typedField 95 = .ok (.iload 7, 2) := by decide +kernel
theorem dX5_typedField_97 : decode cX5_typedField 97 = .ok (.iconst 1, 1) := by decide +kernel
theorem dX5_typedField_98 : decode cX5_typedField 98 = .ok (.invokevirtual 150, 3) := by decide +kernel
theorem dX5_typedField_113 : decode cX5_typedField 113 = .ok (.iload 5, 2) := by decide +kernel
theorem dX5_typedField_24 : decode cX5_typedField 24 = .ok (.iload 4, 2) := by decide +kernel
theorem dX5_typedField_26 : decode cX5_typedField 26 = .ok (.ireturn, 1) := by decide +kernel
theorem dX5_typedLet_0 : decode cX5_typedLet 0 = .ok (.aload_n 0, 1) := by decide +kernel
theorem dX5_typedLet_1 : decode cX5_typedLet 1 = .ok (.aload_n 0, 1) := by decide +kernel
theorem dX5_typedLet_2 : decode cX5_typedLet 2 = .ok (.getfield 64, 3) := by decide +kernel
theorem dX5_typedLet_5 : decode cX5_typedLet 5 = .ok (.iload_n 1, 1) := by decide +kernel
theorem dX5_typedLet_6 : decode cX5_typedLet 6 = .ok (.iconst 0, 1) := by decide +kernel
theorem dX5_typedLet_7 : decode cX5_typedLet 7 = .ok (.invokevirtual 144, 3) := by decide +kernel
theorem dX5_typedLet_10 : decode cX5_typedLet 10 = .ok (.iload_n 2, 1) := by decide +kernel
theorem dX5_typedLet_11 : decode cX5_typedLet 11 = .ok (.iconst 1, 1) := by decide +kernel
theorem dX5_typedLet_12 : decode cX5_typedLet 12 = .ok (.iadd, 1) := by decide +kernel
theorem dX5_typedLet_13 : decode cX5_typedLet 13 = .ok (.iload_n 3, 1) := by decide +kernel
theorem dX5_typedLet_14 : decode cX5_typedLet 14 = .ok (.iconst 1, 1) := by decide +kernel
theorem dX5_typedLet_15 : decode cX5_typedLet 15 = .ok (.iadd, 1) := by decide +kernel
theorem dX5_typedLet_16 : decode cX5_typedLet 16 = .ok (.invokevirtual 77, 3) := by decide +kernel
theorem dX5_typedLet_19 : decode cX5_typedLet 19 = .ok (.istore 4, 2) := by decide +kernel
theorem dX5_typedLet_21 : decode cX5_typedLet 21 = .ok (.iload 4, 2) := by decide +kernel
theorem dX5_typedLet_23 : decode cX5_typedLet 23 = .ok (.ifCond .ge 6, 3) := by decide +kernel
theorem dX5_typedLet_29 : decode cX5_typedLet 29 = .ok (.aload_n 0, 1) := by decide +kernel
theorem dX5_typedLet_30 : decode cX5_typedLet 30 = .ok (.iload_n 1, 1) := by decide +kernel
theorem dX5_typedLet_31 : decode cX5_typedLet 31 = .ok (.iload 4, 2) := by decide +kernel
theorem dX5_typedLet_33 : decode cX5_typedLet 33 = .ok (.iload_n 2, 1) := by decide +kernel
theorem dX5_typedLet_34 : decode cX5_typedLet 34 = .ok (.invokevirtual 140, 3) := by decide +kernel
theorem dX5_typedLet_37 : decode cX5_typedLet 37 = .ok (.aload_n 0, 1) := by decide +kernel
theorem dX5_typedLet_38 : decode cX5_typedLet 38 = .ok (.aload_n 0, 1) := by decide +kernel
theorem dX5_typedLet_39 : decode cX5_typedLet 39 = .ok (.getfield 64, 3) := by decide +kernel
theorem dX5_typedLet_42 : decode cX5_typedLet 42 = .ok (.iload_n 1, 1) := by decide +kernel
theorem dX5_typedLet_43 : decode cX5_typedLet 43 = .ok (.iconst 1, 1) := by decide +kernel
theorem dX5_typedLet_44 : decode cX5_typedLet 44 = .ok (.invokevirtual 144, 3) := by decide +kernel
theorem dX5_typedLet_47 : decode cX5_typedLet 47 = .ok (.iload_n 2, 1) := by decide +kernel
theorem dX5_typedLet_48 : decode cX5_typedLet 48 = .ok (.iload_n 3, 1) := by decide +kernel
theorem dX5_typedLet_49 : decode cX5_typedLet 49 = .ok (.iconst 1, 1) := by decide +kernel
theorem dX5_typedLet_50 : decode cX5_typedLet 50 = .ok (.iadd, 1) := by decide +kernel
theorem dX5_typedLet_51 : decode cX5_typedLet 51 = .ok (.invokevirtual 77, 3) := by decide +kernel
theorem dX5_typedLet_54 : decode cX5_typedLet 54 = .ok (.ireturn, 1) := by decide +kernel
theorem dX5_typedLet_26 : decode cX5_typedLet 26 = .ok (.iload 4, 2) := by decide +kernel
theorem dX5_typedLet_28 : decode cX5_typedLet 28 = .ok (.ireturn, 1) := by decide +kernel
theorem dX5_typedRec_0 : decode cX5_typedRec 0 = .ok (.aload_n 0, 1) := by decide +kernel
theorem dX5_typedRec_1 : decode cX5_typedRec 1 = .ok (.getfield 12, 3) := by decide +kernel
theorem dX5_typedRec_4 : decode cX5_typedRec 4 = .ok (.iload_n 2, 1) := by decide +kernel
theorem dX5_typedRec_5 : decode cX5_typedRec 5 = .ok (.iconst 1, 1) := by decide +kernel
theorem dX5_typedRec_6 : decode cX5_typedRec 6 = .ok (.iadd, 1) := by decide +kernel
theorem dX5_typedRec_7 : decode cX5_typedRec 7 = .ok (.invokevirtual 137, 3) := by decide +kernel
theorem dX5_typedRec_10 : decode cX5_typedRec 10 = .ok (.istore 4, 2) := by decide +kernel
theorem dX5_typedRec_12 : decode cX5_typedRec 12 = .ok (.iload 4, 2) := by decide +kernel
theorem dX5_typedRec_14 : decode cX5_typedRec 14 = .ok (.ifCond .ge 6, 3) := by decide +kernel
theorem dX5_typedRec_17 : decode cX5_typedRec 17 = .ok (.iload 4, 2) := by decide +kernel
theorem dX5_typedRec_19 : decode cX5_typedRec 19 = .ok (.ireturn, 1) := by decide +kernel
theorem dX5_typedRec_20 : decode cX5_typedRec 20 = .ok (.aload_n 0, 1) := by decide +kernel
theorem dX5_typedRec_21 : decode cX5_typedRec 21 = .ok (.iload_n 1, 1) := by decide +kernel
theorem dX5_typedRec_22 : decode cX5_typedRec 22 = .ok (.iload 4, 2) := by decide +kernel
theorem dX5_typedRec_24 : decode cX5_typedRec 24 = .ok (.iconst (-1), 1) := by decide +kernel
theorem dX5_typedRec_25 : decode cX5_typedRec 25 = .ok (.invokevirtual 140, 3) := by decide +kernel
theorem dX5_typedRec_28 : decode cX5_typedRec 28 = .ok (.aload_n 0, 1) := by decide +kernel
theorem dX5_typedRec_29 : decode cX5_typedRec 29 = .ok (.aload_n 0, 1) := by decide +kernel
theorem dX5_typedRec_30 : decode cX5_typedRec 30 = .ok (.getfield 64, 3) := by decide +kernel
theorem dX5_typedRec_33 : decode cX5_typedRec 33 = .ok (.iload_n 1, 1) := by decide +kernel
theorem dX5_typedRec_34 : decode cX5_typedRec 34 = .ok (.iconst 0, 1) := by decide +kernel
theorem dX5_typedRec_35 : decode cX5_typedRec 35 = .ok (.invokevirtual 144, 3) := by decide +kernel
theorem dX5_typedRec_38 : decode cX5_typedRec 38 = .ok (.iload_n 2, 1) := by decide +kernel
theorem dX5_typedRec_39 : decode cX5_typedRec 39 = .ok (.iconst 1, 1) := by decide +kernel
theorem dX5_typedRec_40 : decode cX5_typedRec 40 = .ok (.iadd, 1) := by decide +kernel
theorem dX5_typedRec_41 : decode cX5_typedRec 41 = .ok (.iload_n 3, 1) := by decide +kernel
theorem dX5_typedRec_42 : decode cX5_typedRec 42 = .ok (.iconst 1, 1) := by decide +kernel
theorem dX5_typedRec_43 : decode cX5_typedRec 43 = .ok (.iadd, 1) := by decide +kernel
theorem dX5_typedRec_44 : decode cX5_typedRec 44 = .ok (.invokevirtual 77, 3) := by decide +kernel
theorem dX5_typedRec_47 : decode cX5_typedRec 47 = .ok (.istore 5, 2) := by decide +kernel
theorem dX5_typedRec_49 : decode cX5_typedRec 49 = .ok (.iload 5, 2) := by decide +kernel
theorem dX5_typedRec_51 : decode cX5_typedRec 51 = .ok (.ifCond .ge 8, 3) := by decide +kernel
theorem dX5_typedRec_59 : decode cX5_typedRec 59 = .ok (.aload_n 0, 1) := by decide +kernel
theorem dX5_typedRec_60 : decode cX5_typedRec 60 = .ok (.iload 5, 2) := by decide +kernel
theorem dX5_typedRec_62 : decode cX5_typedRec 62 = .ok (.iload 4, 2) := by decide +kernel
theorem dX5_typedRec_64 : decode cX5_typedRec 64 = .ok (.iconst 1, 1) := by decide +kernel
theorem dX5_typedRec_65 : decode cX5_typedRec 65 = .ok (.invokevirtual 150, 3) := by decide +kernel
theorem dX5_typedRec_68 : decode cX5_typedRec 68 = .ok (.istore 6, 2) := by decide +kernel
theorem dX5_typedRec_70 : decode cX5_typedRec 70 = .ok (.iload 6, 2) := by decide +kernel
theorem dX5_typedRec_72 : decode cX5_typedRec 72 = .ok (.ifCond .ge 6, 3) := by decide +kernel
theorem dX5_typedRec_78 : decode cX5_typedRec 78 = .ok (.aload_n 0, 1) := by decide +kernel
theorem dX5_typedRec_79 : decode cX5_typedRec 79 = .ok (.iload_n 1, 1) := by decide +kernel
theorem dX5_typedRec_80 : decode cX5_typedRec 80 = .ok (.iload 4, 2) := by decide +kernel
theorem dX5_typedRec_82 : decode cX5_typedRec 82 = .ok (.iload_n 2, 1) := by decide +kernel
theorem dX5_typedRec_83 : decode cX5_typedRec 83 = .ok (.invokevirtual 140, 3) := by decide +kernel
theorem dX5_typedRec_86 : decode cX5_typedRec 86 = .ok (.aload_n 0, 1) := by decide +kernel
theorem dX5_typedRec_87 : decode cX5_typedRec 87 = .ok (.aload_n 0, 1) := by decide +kernel
theorem dX5_typedRec_88 : decode cX5_typedRec 88 = .ok (.getfield 64, 3) := by decide +kernel
theorem dX5_typedRec_91 : decode cX5_typedRec 91 = .ok (.iload_n 1, 1) := by decide +kernel
theorem dX5_typedRec_92 : decode cX5_typedRec 92 = .ok (.iconst 1, 1) := by decide +kernel
theorem dX5_typedRec_93 : decode cX5_typedRec 93 = .ok (.invokevirtual 144, 3) := by decide +kernel
theorem dX5_typedRec_96 : decode cX5_typedRec 96 = .ok (.iload_n 2, 1) := by decide +kernel
theorem dX5_typedRec_97 : decode cX5_typedRec 97 = .ok (.iload_n 3, 1) := by decide +kernel
theorem dX5_typedRec_98 : decode cX5_typedRec 98 = .ok (.iconst 1, 1) := by decide +kernel
theorem dX5_typedRec_99 : decode cX5_typedRec 99 = .ok (.iadd, 1) := by decide +kernel
theorem dX5_typedRec_100 : decode cX5_typedRec 100 = .ok (.invokevirtual 77, 3) := by decide +kernel
theorem dX5_typedRec_103 : decode cX5_typedRec 103 = .ok (.ireturn, 1) := by decide +kernel
theorem dX5_typedRec_75 : decode cX5_typedRec 75 = .ok (.iload 6, 2) := by decide +kernel
theorem dX5_typedRec_77 : decode cX5_typedRec 77 = .ok (.ireturn, 1) := by decide +kernel
theorem dX5_typedRec_54 : decode cX5_typedRec 54 = .ok (.iload 5, 2) := by decide +kernel
theorem dX5_typedRec_56 : decode cX5_typedRec 56 = .ok (.goto 12, 3) := by decide +kernel
theorem dX5_typedPick_0 : decode cX5_typedPick 0 = .ok (.aload_n 0, 1) := by decide +kernel
theorem dX5_typedPick_1 : decode cX5_typedPick 1 = .ok (.aload_n 0, 1) := by decide +kernel
theorem dX5_typedPick_2 : decode cX5_typedPick 2 = .ok (.getfield 64, 3) := by decide +kernel
theorem dX5_typedPick_5 : decode cX5_typedPick 5 = .ok (.iload_n 1, 1) := by decide +kernel
theorem dX5_typedPick_6 : decode cX5_typedPick 6 = .ok (.iconst 0, 1) := by decide +kernel
theorem dX5_typedPick_7 : decode cX5_typedPick 7 = .ok (.invokevirtual 144, 3) := by decide +kernel
theorem dX5_typedPick_10 : decode cX5_typedPick 10 = .ok (.iload_n 2, 1) := by decide +kernel
theorem dX5_typedPick_11 : decode cX5_typedPick 11 = .ok (.iload_n 3, 1) := by decide +kernel
theorem dX5_typedPick_12 : decode cX5_typedPick 12 = .ok (.iconst 1, 1) := by decide +kernel
theorem dX5_typedPick_13 : decode cX5_typedPick 13 = .ok (.iadd, 1) := by decide +kernel
theorem dX5_typedPick_14 : decode cX5_typedPick 14 = .ok (.invokevirtual 77, 3) := by decide +kernel
theorem dX5_typedPick_17 : decode cX5_typedPick 17 = .ok (.istore 4, 2) := by decide +kernel
theorem dX5_typedPick_19 : decode cX5_typedPick 19 = .ok (.iload 4, 2) := by decide +kernel
theorem dX5_typedPick_21 : decode cX5_typedPick 21 = .ok (.ifCond .ge 8, 3) := by decide +kernel
theorem dX5_typedPick_29 : decode cX5_typedPick 29 = .ok (.aload_n 0, 1) := by decide +kernel
theorem dX5_typedPick_30 : decode cX5_typedPick 30 = .ok (.iload 4, 2) := by decide +kernel
theorem dX5_typedPick_32 : decode cX5_typedPick 32 = .ok (.iconst 1, 1) := by decide +kernel
theorem dX5_typedPick_33 : decode cX5_typedPick 33 = .ok (.iconst 1, 1) := by decide +kernel
theorem dX5_typedPick_34 : decode cX5_typedPick 34 = .ok (.invokevirtual 150, 3) := by decide +kernel
theorem dX5_typedPick_37 : decode cX5_typedPick 37 = .ok (.istore 5, 2) := by decide +kernel
theorem dX5_typedPick_39 : decode cX5_typedPick 39 = .ok (.iload 5, 2) := by decide +kernel
theorem dX5_typedPick_41 : decode cX5_typedPick 41 = .ok (.ifCond .ge 6, 3) := by decide +kernel
theorem dX5_typedPick_47 : decode cX5_typedPick 47 = .ok (.aload_n 0, 1) := by decide +kernel
theorem dX5_typedPick_48 : decode cX5_typedPick 48 = .ok (.getfield 12, 3) := by decide +kernel
theorem dX5_typedPick_51 : decode cX5_typedPick 51 = .ok (.iload_n 2, 1) := by decide +kernel
theorem dX5_typedPick_52 : decode cX5_typedPick 52 = .ok (.invokevirtual 137, 3) := by decide +kernel
theorem dX5_typedPick_55 : decode cX5_typedPick 55 = .ok (.istore 6, 2) := by decide +kernel
theorem dX5_typedPick_57 : decode cX5_typedPick 57 = .ok (.iload 6, 2) := by decide +kernel
theorem dX5_typedPick_59 : decode cX5_typedPick 59 = .ok (.ifCond .ge 6, 3) := by decide +kernel
theorem dX5_typedPick_62 : decode cX5_typedPick 62 = .ok (.iload 6, 2) := by decide +kernel
theorem dX5_typedPick_64 : decode cX5_typedPick 64 = .ok (.ireturn, 1) := by decide +kernel
theorem dX5_typedPick_65 : decode cX5_typedPick 65 = .ok (.iconst 1, 1) := by decide +kernel
theorem dX5_typedPick_66 : decode cX5_typedPick 66 = .ok (.istore 7, 2) := by decide +kernel
theorem dX5_typedPick_68 : decode cX5_typedPick 68 = .ok (.iload 7, 2) := by decide +kernel
theorem dX5_typedPick_70 : decode cX5_typedPick 70 = .ok (.iconst 2, 1) := by decide +kernel
theorem dX5_typedPick_71 : decode cX5_typedPick 71 = .ok (.if_icmp .gt 58, 3) := by decide +kernel
theorem dX5_typedPick_74 : decode cX5_typedPick 74 = .ok (.aload_n 0, 1) := by decide +kernel
theorem dX5_typedPick_75 : decode cX5_typedPick 75 = .ok (.aload_n 0, 1) := by decide +kernel
theorem dX5_typedPick_76 : decode cX5_typedPick 76 = .ok (.getfield 64, 3) := by decide +kernel
theorem dX5_typedPick_79 : decode cX5_typedPick 79 = .ok (.iload_n 1, 1) := by decide +kernel
theorem dX5_typedPick_80 : decode cX5_typedPick 80 = .ok (.iload 7, 2) := by decide +kernel
theorem dX5_typedPick_82 : decode cX5_typedPick 82 = .ok (.invokevirtual 144, 3) := by decide +kernel
theorem dX5_typedPick_85 : decode cX5_typedPick 85 = .ok (.iload_n 2, 1) := by decide +kernel
theorem dX5_typedPick_86 : decode cX5_typedPick 86 = .ok (.iload_n 3, 1) := by decide +kernel
theorem dX5_typedPick_87 : decode cX5_typedPick 87 = .ok (.iconst 1, 1) := by decide +kernel
theorem dX5_typedPick_88 : decode cX5_typedPick 88 = .ok (.iadd, 1) := by decide +kernel
theorem dX5_typedPick_89 : decode cX5_typedPick 89 = .ok (.invokevirtual 77, 3) := by decide +kernel
theorem dX5_typedPick_92 : decode cX5_typedPick 92 = .ok (.istore 8, 2) := by decide +kernel
theorem dX5_typedPick_94 : decode cX5_typedPick 94 = .ok (.iload 8, 2) := by decide +kernel
theorem dX5_typedPick_96 : decode cX5_typedPick 96 = .ok (.ifCond .ge 8, 3) := by decide +kernel
theorem dX5_typedPick_104 : decode cX5_typedPick 104 = .ok (.aload_n 0, 1) := by decide +kernel
theorem dX5_typedPick_105 : decode cX5_typedPick 105 = .ok (.iload 8, 2) := by decide +kernel
theorem dX5_typedPick_107 : decode cX5_typedPick 107 = .ok (.iload 6, 2) := by decide +kernel
theorem dX5_typedPick_109 : decode cX5_typedPick 109 = .ok (.iconst 1, 1) := by decide +kernel
theorem dX5_typedPick_110 : decode cX5_typedPick 110 = .ok (.invokevirtual 150, 3) := by decide +kernel
theorem dX5_typedPick_113 : decode cX5_typedPick 113 = .ok (.istore 5, 2) := by decide +kernel
theorem dX5_typedPick_115 : decode cX5_typedPick 115 = .ok (.iload 5, 2) := by decide +kernel
theorem dX5_typedPick_117 : decode cX5_typedPick 117 = .ok (.ifCond .ge 6, 3) := by decide +kernel
theorem dX5_typedPick_123 : decode cX5_typedPick 123 = .ok (.iinc 7 1, 3) := by decide +kernel
theorem dX5_typedPick_126 : decode cX5_typedPick 126 = .ok (.goto (-58), 3) := by decide +kernel
theorem dX5_typedPick_129 : decode cX5_typedPick 129 = .ok (.iload 6, 2) := by decide +kernel
theorem dX5_typedPick_131 : decode cX5_typedPick 131 = .ok (.ireturn, 1) := by decide +kernel
theorem dX5_typedPick_120 : decode cX5_typedPick 120 = .ok (.iload 5, 2) := by decide +kernel
theorem dX5_typedPick_122 : decode cX5_typedPick 122 = .ok (.ireturn, 1) := by decide +kernel
theorem dX5_typedPick_99 : decode cX5_typedPick 99 = .ok (.iload 8, 2) := by decide +kernel
theorem dX5_typedPick_101 : decode cX5_typedPick 101 = .ok (.goto 12, 3) := by decide +kernel
theorem dX5_typedPick_44 : decode cX5_typedPick 44 = .ok (.iload 5, 2) := by decide +kernel
theorem dX5_typedPick_46 : decode cX5_typedPick 46 = .ok (.ireturn, 1) := by decide +kernel
theorem dX5_typedPick_24 : decode cX5_typedPick 24 = .ok (.iload 4, 2) := by decide +kernel
theorem dX5_typedPick_26 : decode cX5_typedPick 26 = .ok (.goto 11, 3) := by decide +kernel
theorem dX5_typedWholes_0 : decode cX5_typedWholes 0 = .ok (.iconst 0, 1) := by decide +kernel
theorem dX5_typedWholes_1 : decode cX5_typedWholes 1 = .ok (.istore 4, 2) := by decide +kernel
theorem dX5_typedWholes_3 : decode cX5_typedWholes 3 = .ok (.iload 4, 2) := by decide +kernel
theorem dX5_typedWholes_5 : decode cX5_typedWholes 5 = .ok (.iconst 1, 1) := by decide +kernel
theorem dX5_typedWholes_6 : decode cX5_typedWholes 6 = .ok (.if_icmp .gt 57, 3) := by decide +kernel
theorem dX5_typedWholes_9 : decode cX5_typedWholes 9 = .ok (.aload_n 0, 1) := by decide +kernel
theorem dX5_typedWholes_10 : decode cX5_typedWholes 10 = .ok (.aload_n 0, 1) := by decide +kernel
theorem dX5_typedWholes_11 : decode cX5_typedWholes 11 = .ok (.getfield 64, 3) := by decide +kernel
theorem dX5_typedWholes_14 : decode cX5_typedWholes 14 = .ok (.iload_n 1, 1) := by decide +kernel
theorem dX5_typedWholes_15 : decode cX5_typedWholes 15 = .ok (.iload 4, 2) := by decide +kernel
theorem dX5_typedWholes_17 : decode cX5_typedWholes 17 = .ok (.invokevirtual 144, 3) := by decide +kernel
theorem dX5_typedWholes_20 : decode cX5_typedWholes 20 = .ok (.iload_n 2, 1) := by decide +kernel
theorem dX5_typedWholes_21 : decode cX5_typedWholes 21 = .ok (.iload_n 3, 1) := by decide +kernel
theorem dX5_typedWholes_22 : decode cX5_typedWholes 22 = .ok (.iconst 1, 1) := by decide +kernel
theorem dX5_typedWholes_23 : decode cX5_typedWholes 23 = .ok (.iadd, 1) := by decide +kernel
theorem dX5_typedWholes_24 : decode cX5_typedWholes 24 = .ok (.invokevirtual 77, 3) := by decide +kernel
theorem dX5_typedWholes_27 : decode cX5_typedWholes 27 = .ok (.istore 5, 2) := by decide +kernel
theorem dX5_typedWholes_29 : decode cX5_typedWholes 29 = .ok (.iload 5, 2) := by decide +kernel
theorem dX5_typedWholes_31 : decode cX5_typedWholes 31 = .ok (.ifCond .ge 8, 3) := by decide +kernel
theorem dX5_typedWholes_39 : decode cX5_typedWholes 39 = .ok (.aload_n 0, 1) := by decide +kernel
theorem dX5_typedWholes_40 : decode cX5_typedWholes 40 = .ok (.iload 5, 2) := by decide +kernel
theorem dX5_typedWholes_42 : decode cX5_typedWholes 42 = .ok (.iconst 0, 1) := by decide +kernel
theorem dX5_typedWholes_43 : decode cX5_typedWholes 43 = .ok (.iconst 1, 1) := by decide +kernel
theorem dX5_typedWholes_44 : decode cX5_typedWholes 44 = .ok (.invokevirtual 150, 3) := by decide +kernel
theorem dX5_typedWholes_47 : decode cX5_typedWholes 47 = .ok (.istore 6, 2) := by decide +kernel
theorem dX5_typedWholes_49 : decode cX5_typedWholes 49 = .ok (.iload 6, 2) := by decide +kernel
theorem dX5_typedWholes_51 : decode cX5_typedWholes 51 = .ok (.ifCond .ge 6, 3) := by decide +kernel
theorem dX5_typedWholes_57 : decode cX5_typedWholes 57 = .ok (.iinc 4 1, 3) := by decide +kernel
theorem dX5_typedWholes_60 : decode cX5_typedWholes 60 = .ok (.goto (-57), 3) := by decide +kernel
theorem dX5_typedWholes_63 : decode cX5_typedWholes 63 = .ok (.aload_n 0, 1) := by decide +kernel
theorem dX5_typedWholes_64 : decode cX5_typedWholes 64 = .ok (.getfield 64, 3) := by decide +kernel
theorem dX5_typedWholes_67 : decode cX5_typedWholes 67 = .ok (.iload_n 1, 1) := by decide +kernel
theorem dX5_typedWholes_68 : decode cX5_typedWholes 68 = .ok (.invokevirtual 89, 3) := by decide +kernel
theorem dX5_typedWholes_71 : decode cX5_typedWholes 71 = .ok (.bipush 10, 2) := by decide +kernel
theorem dX5_typedWholes_73 : decode cX5_typedWholes 73 = .ok (.if_icmp .ne 7, 3) := by decide +kernel
theorem dX5_typedWholes_80 : decode cX5_typedWholes 80 = .ok (.iconst 1, 1) := by decide +kernel
theorem dX5_typedWholes_81 : decode cX5_typedWholes 81 = .ok (.ireturn, 1) := by decide +kernel
theorem dX5_typedWholes_76 : decode cX5_typedWholes 76 = .ok (.iconst 0, 1) := by decide +kernel
theorem dX5_typedWholes_77 : decode cX5_typedWholes 77 = .ok (.goto 4, 3) := by decide +kernel
theorem dX5_typedWholes_54 : decode cX5_typedWholes 54 = .ok (.iload 6, 2) := by decide +kernel
theorem dX5_typedWholes_56 : decode cX5_typedWholes 56 = .ok (.ireturn, 1) := by decide +kernel
theorem dX5_typedWholes_34 : decode cX5_typedWholes 34 = .ok (.iload 5, 2) := by decide +kernel
theorem dX5_typedWholes_36 : decode cX5_typedWholes 36 = .ok (.goto 11, 3) := by decide +kernel
theorem dX5_typed_0 : decode cX5_typed 0 = .ok (.bipush (-6), 2) := by decide +kernel
theorem dX5_typed_2 : decode cX5_typed 2 = .ok (.istore 4, 2) := by decide +kernel
theorem dX5_typed_4 : decode cX5_typed 4 = .ok (.iload_n 3, 1) := by decide +kernel
theorem dX5_typed_5 : decode cX5_typed 5 = .ok (.bipush 60, 2) := by decide +kernel
theorem dX5_typed_7 : decode cX5_typed 7 = .ok (.if_icmp .gt 181, 3) := by decide +kernel
theorem dX5_typed_188 : decode cX5_typed 188 = .ok (.iload 4, 2) := by decide +kernel
theorem dX5_typed_190 : decode cX5_typed 190 = .ok (.ifCond .ge 17, 3) := by decide +kernel
theorem dX5_typed_193 : decode cX5_typed 193 = .ok (.aload_n 0, 1) := by decide +kernel
theorem dX5_typed_194 : decode cX5_typed 194 = .ok (.getfield 58, 3) := by decide +kernel
theorem dX5_typed_197 : decode cX5_typed 197 = .ok (.bipush (-9), 2) := by decide +kernel
theorem dX5_typed_199 : decode cX5_typed 199 = .ok (.if_icmp .ne 8, 3) := by decide +kernel
theorem dX5_typed_207 : decode cX5_typed 207 = .ok (.iload 4, 2) := by decide +kernel
theorem dX5_typed_209 : decode cX5_typed 209 = .ok (.ireturn, 1) := by decide +kernel
theorem dX5_typed_202 : decode cX5_typed 202 = .ok (.aload_n 0, 1) := by decide +kernel
theorem dX5_typed_203 : decode cX5_typed 203 = .ok (.iload_n 1, 1) := by decide +kernel
theorem dX5_typed_204 : decode cX5_typed 204 = .ok (.putfield 58, 3) := by decide +kernel
theorem dX5_typed_10 : decode cX5_typed 10 = .ok (.aload_n 0, 1) := by decide +kernel
theorem dX5_typed_11 : decode cX5_typed 11 = .ok (.getfield 64, 3) := by decide +kernel
theorem dX5_typed_14 : decode cX5_typed 14 = .ok (.iload_n 1, 1) := by decide +kernel
theorem dX5_typed_15 : decode cX5_typed 15 = .ok (.invokevirtual 89, 3) := by decide +kernel
theorem dX5_typed_18 : decode cX5_typed 18 = .ok (.tableswitch 161 0 9 #[54, 60, 66, 77, 89, 101, 113, 125, 137, 149], 54) := by decide +kernel
theorem dX5_typed_72 : decode cX5_typed 72 = .ok (.iconst 0, 1) := by decide +kernel
theorem dX5_typed_73 : decode cX5_typed 73 = .ok (.istore 4, 2) := by decide +kernel
theorem dX5_typed_75 : decode cX5_typed 75 = .ok (.goto 113, 3) := by decide +kernel
theorem dX5_typed_78 : decode cX5_typed 78 = .ok (.iconst 1, 1) := by decide +kernel
theorem dX5_typed_79 : decode cX5_typed 79 = .ok (.istore 4, 2) := by decide +kernel
theorem dX5_typed_81 : decode cX5_typed 81 = .ok (.goto 107, 3) := by decide +kernel
theorem dX5_typed_84 : decode cX5_typed 84 = .ok (.aload_n 0, 1) := by decide +kernel
theorem dX5_typed_85 : decode cX5_typed 85 = .ok (.iload_n 1, 1) := by decide +kernel
theorem dX5_typed_86 : decode cX5_typed 86 = .ok (.iload_n 2, 1) := by decide +kernel
theorem dX5_typed_87 : decode cX5_typed 87 = .ok (.invokevirtual 93, 3) := by decide +kernel
theorem dX5_typed_90 : decode cX5_typed 90 = .ok (.istore 4, 2) := by decide +kernel
theorem dX5_typed_92 : decode cX5_typed 92 = .ok (.goto 96, 3) := by decide +kernel
theorem dX5_typed_95 : decode cX5_typed 95 = .ok (.aload_n 0, 1) := by decide +kernel
theorem dX5_typed_96 : decode cX5_typed 96 = .ok (.iload_n 1, 1) := by decide +kernel
theorem dX5_typed_97 : decode cX5_typed 97 = .ok (.iload_n 2, 1) := by decide +kernel
theorem dX5_typed_98 : decode cX5_typed 98 = .ok (.iload_n 3, 1) := by decide +kernel
theorem dX5_typed_99 : decode cX5_typed 99 = .ok (.invokevirtual 97, 3) := by decide +kernel
theorem dX5_typed_102 : decode cX5_typed 102 = .ok (.istore 4, 2) := by decide +kernel
theorem dX5_typed_104 : decode cX5_typed 104 = .ok (.goto 84, 3) := by decide +kernel
theorem dX5_typed_107 : decode cX5_typed 107 = .ok (.aload_n 0, 1) := by decide +kernel
theorem dX5_typed_108 : decode cX5_typed 108 = .ok (.iload_n 1, 1) := by decide +kernel
theorem dX5_typed_109 : decode cX5_typed 109 = .ok (.iload_n 2, 1) := by decide +kernel
theorem dX5_typed_110 : decode cX5_typed 110 = .ok (.iload_n 3, 1) := by decide +kernel
theorem dX5_typed_111 : decode cX5_typed 111 = .ok (.invokevirtual 100, 3) := by decide +kernel
theorem dX5_typed_114 : decode cX5_typed 114 = .ok (.istore 4, 2) := by decide +kernel
theorem dX5_typed_116 : decode cX5_typed 116 = .ok (.goto 72, 3) := by decide +kernel
theorem dX5_typed_119 : decode cX5_typed 119 = .ok (.aload_n 0, 1) := by decide +kernel
theorem dX5_typed_120 : decode cX5_typed 120 = .ok (.iload_n 1, 1) := by decide +kernel
theorem dX5_typed_121 : decode cX5_typed 121 = .ok (.iload_n 2, 1) := by decide +kernel
theorem dX5_typed_122 : decode cX5_typed 122 = .ok (.iload_n 3, 1) := by decide +kernel
theorem dX5_typed_123 : decode cX5_typed 123 = .ok (.invokevirtual 103, 3) := by decide +kernel
theorem dX5_typed_126 : decode cX5_typed 126 = .ok (.istore 4, 2) := by decide +kernel
theorem dX5_typed_128 : decode cX5_typed 128 = .ok (.goto 60, 3) := by decide +kernel
theorem dX5_typed_131 : decode cX5_typed 131 = .ok (.aload_n 0, 1) := by decide +kernel
theorem dX5_typed_132 : decode cX5_typed 132 = .ok (.iload_n 1, 1) := by decide +kernel
theorem dX5_typed_133 : decode cX5_typed 133 = .ok (.iload_n 2, 1) := by decide +kernel
theorem dX5_typed_134 : decode cX5_typed 134 = .ok (.iload_n 3, 1) := by decide +kernel
theorem dX5_typed_135 : decode cX5_typed 135 = .ok (.invokevirtual 106, 3) := by decide +kernel
theorem dX5_typed_138 : decode cX5_typed 138 = .ok (.istore 4, 2) := by decide +kernel
theorem dX5_typed_140 : decode cX5_typed 140 = .ok (.goto 48, 3) := by decide +kernel
theorem dX5_typed_143 : decode cX5_typed 143 = .ok (.aload_n 0, 1) := by decide +kernel
theorem dX5_typed_144 : decode cX5_typed 144 = .ok (.iload_n 1, 1) := by decide +kernel
theorem dX5_typed_145 : decode cX5_typed 145 = .ok (.iload_n 2, 1) := by decide +kernel
theorem dX5_typed_146 : decode cX5_typed 146 = .ok (.iload_n 3, 1) := by decide +kernel
theorem dX5_typed_147 : decode cX5_typed 147 = .ok (.invokevirtual 109, 3) := by decide +kernel
theorem dX5_typed_150 : decode cX5_typed 150 = .ok (.istore 4, 2) := by decide +kernel
theorem dX5_typed_152 : decode cX5_typed 152 = .ok (.goto 36, 3) := by decide +kernel
theorem dX5_typed_155 : decode cX5_typed 155 = .ok (.aload_n 0, 1) := by decide +kernel
theorem dX5_typed_156 : decode cX5_typed 156 = .ok (.iload_n 1, 1) := by decide +kernel
theorem dX5_typed_157 : decode cX5_typed 157 = .ok (.iload_n 2, 1) := by decide +kernel
theorem dX5_typed_158 : decode cX5_typed 158 = .ok (.iload_n 3, 1) := by decide +kernel
theorem dX5_typed_159 : decode cX5_typed 159 = .ok (.invokevirtual 112, 3) := by decide +kernel
theorem dX5_typed_162 : decode cX5_typed 162 = .ok (.istore 4, 2) := by decide +kernel
theorem dX5_typed_164 : decode cX5_typed 164 = .ok (.goto 24, 3) := by decide +kernel
theorem dX5_typed_167 : decode cX5_typed 167 = .ok (.aload_n 0, 1) := by decide +kernel
theorem dX5_typed_168 : decode cX5_typed 168 = .ok (.iload_n 1, 1) := by decide +kernel
theorem dX5_typed_169 : decode cX5_typed 169 = .ok (.iload_n 2, 1) := by decide +kernel
theorem dX5_typed_170 : decode cX5_typed 170 = .ok (.iload_n 3, 1) := by decide +kernel
theorem dX5_typed_171 : decode cX5_typed 171 = .ok (.invokevirtual 115, 3) := by decide +kernel
theorem dX5_typed_174 : decode cX5_typed 174 = .ok (.istore 4, 2) := by decide +kernel
theorem dX5_typed_176 : decode cX5_typed 176 = .ok (.goto 12, 3) := by decide +kernel
theorem dX5_typed_179 : decode cX5_typed 179 = .ok (.aload_n 0, 1) := by decide +kernel
theorem dX5_typed_180 : decode cX5_typed 180 = .ok (.iload_n 1, 1) := by decide +kernel
theorem dX5_typed_181 : decode cX5_typed 181 = .ok (.iload_n 2, 1) := by decide +kernel
theorem dX5_typed_182 : decode cX5_typed 182 = .ok (.iload_n 3, 1) := by decide +kernel
theorem dX5_typed_183 : decode cX5_typed 183 = .ok (.invokevirtual 118, 3) := by decide +kernel
theorem dX5_typed_186 : decode cX5_typed 186 = .ok (.istore 4, 2) := by decide +kernel
/-! ===== TYPING: safe ===== -/
def TJ (S : cS) (N : Nat) : Prop := TI S N ∧ ∀ n, n < N → kF S 3 n ≤ 6
theorem TJ.aw {rs is : List Nat} {S u : cS} {N : Nat} (h : TJ S N) (a : AW rs is S u) (hr : ∀ r ∈ [0, 1, 2, 3, 4, 5], r ∉ rs) : TJ u N := ⟨h.1.aw a hr, fun n hn => by
  rw [(a.2.1 3 (lt35 (by decide)) (hr 3 (by decide))).1]
  exact h.2 n hn⟩
def TR (u : cS) (T V Y q g T1 V1 X1 Y1 Z1 q1 : Nat) (v : Int32) : Prop := US u T1 V1 X1 Y1 Z1 q1 ∧ (T ≤ T1 ∧ V ≤ V1 ∧ q ≤ q1 ∧ q1 ≤ 1501 ∧ Y ≤ Y1 ∧ Y1 ≤ Y + g) ∧ (¬ v < 0 → q1 ≤ 1500 ∧ Y1 = Y)
def TX (u : cS) (T V Y q g : Nat) (v : Int32) : Prop := ∃ T1 V1 X1 Y1 Z1 q1, TR u T V Y q g T1 V1 X1 Y1 Z1 q1 v
theorem TX.bad {u : cS} {T V Y q g T1 V1 Y1 q1 g1 : Nat} {v : Int32} (h : TX u T1 V1 Y1 q1 g1 v) (a : T ≤ T1 ∧ V ≤ V1 ∧ q ≤ q1 ∧ Y ≤ Y1 ∧ Y1 + g1 ≤ Y + g) (hv : v < 0) : TX u T V Y q g v := by
  obtain ⟨T2, V2, X2, Y2, Z2, q2, b, ⟨c1, c2, c3, c4, c5, c6⟩, d⟩ := h
  exact ⟨T2, V2, X2, Y2, Z2, q2, b, ⟨by omega, by omega, by omega, c4, by omega, by omega⟩, fun z => absurd hv z⟩
theorem TX.tail {u : cS} {T V Y q g T1 V1 q1 g1 : Nat} {v : Int32} (h : TX u T1 V1 Y q1 g1 v) (a : T ≤ T1 ∧ V ≤ V1 ∧ q ≤ q1 ∧ g1 ≤ g) : TX u T V Y q g v := by
  obtain ⟨T2, V2, X2, Y2, Z2, q2, b, ⟨c1, c2, c3, c4, c5, c6⟩, d⟩ := h
  exact ⟨T2, V2, X2, Y2, Z2, q2, b, ⟨by omega, by omega, by omega, c4, c5, by omega⟩, d⟩
theorem US.tx {u : cS} {T V Y q g T1 V1 X1 Z1 q1 : Nat} (h : US u T1 V1 X1 Y Z1 q1) (a : T ≤ T1 ∧ V ≤ V1 ∧ q ≤ q1 ∧ q1 ≤ 1500) (v : Int32) : TX u T V Y q g v := ⟨T1, V1, X1, Y, Z1, q1, h, ⟨a.1, a.2.1, a.2.2.1, Nat.le_succ_of_le a.2.2.2, Nat.le_refl _, Nat.le_add_right _ _⟩, fun _ => ⟨a.2.2.2, rfl⟩⟩
theorem US.txb {u : cS} {T V Y q g T1 V1 X1 Y1 Z1 q1 : Nat} (h : US u T1 V1 X1 Y1 Z1 q1) (a : T ≤ T1 ∧ V ≤ V1 ∧ q ≤ q1 ∧ q1 ≤ 1500) (hy : Y ≤ Y1 ∧ Y1 ≤ Y + g) {v : Int32} (hv : v < 0) : TX u T V Y q g v := ⟨T1, V1, X1, Y1, Z1, q1, h, ⟨a.1, a.2.1, a.2.2.1, Nat.le_succ_of_le a.2.2.2, hy.1, hy.2⟩, fun z => absurd hv z⟩
theorem TX.ok {u : cS} {T V Y q g : Nat} {v : Int32} (h : TX u T V Y q g v) (hv : 0 ≤ v) : ∃ T1 V1 X1 Z1 q1, US u T1 V1 X1 Y Z1 q1 ∧ T ≤ T1 ∧ V ≤ V1 ∧ q ≤ q1 ∧ q1 ≤ 1500 := by
  obtain ⟨T2, V2, X2, Y2, Z2, q2, b, ⟨c1, c2, c3, c4, c5, c6⟩, d⟩ := h
  obtain ⟨e1, e2⟩ := d (Int32.not_lt.mpr hv)
  subst e2
  exact ⟨T2, V2, X2, Z2, q2, b, c1, c2, c3, e1⟩
theorem UX.tx {u : cS} {T V Y q : Nat} {v : Int32} (h : UX u T V Y q v) : TX u T V Y q 366 v := by
  obtain ⟨T2, V2, X2, Y2, Z2, q2, b, c, d, e⟩ := h
  refine ⟨T2, V2, X2, Y2, Z2, q2, b, c, fun z => e ?_⟩
  rcases d with d | d
  · exact d
  · exact absurd d z
theorem CX.tx {S u : cS} {T V X Y Z q : Nat} {v : Int32} (h : CX S u T V Y Z q 0 60 v) (hU : US S T V X Y Z q) (h12 : u.1 12 = S.1 12) (hq : q ≤ 1500) : TX u T V Y q 366 v := by
  obtain ⟨T2, V2, X2, Y2, c, d1, d2, d3⟩ := h
  exact ⟨T2, V2, X2, Y2, Z, q, ⟨c.1, h12.trans hU.2.1, hU.2.2.1, c.2.2.2.2.2⟩, ⟨c.2.1, c.2.2.1, Nat.le_refl _, by omega, d1, by omega⟩, fun z => ⟨hq, d3 z⟩⟩
theorem US.ty {rs is : List Nat} {S u : cS} {T V X Y Z q T2 X2 Y2 : Nat} (h : US S T V X Y Z q) (hT : TY u T2 V V X2 Y2 Z) (a : AW rs is S u) (h1 : 35 ∉ rs) (h2 : 12 ∉ is) : US u T2 V X2 Y2 Z q := ⟨hT, (a.1 12 h2).trans h.2.1, h.2.2.1, fun j hj => by rw [a.bnd h1 h.1.2.1.2.2.1 j hj]; exact h.2.2.2 j hj⟩
theorem US.var {rs is : List Nat} {S u : cS} {T V X Y Z q : Nat} (h : US S T V X Y Z q) (hT : TY u (T + 1) (V + 1) (V + 1) X Y Z) (a : AW rs is S u) (h2 : 12 ∉ is) (ho : ∀ j, j < 2 * V → kK u (35 + j) = kK S (35 + j)) (h3 : kK u (35 + 2 * V) = 0) (h4 : kK u (35 + (2 * V + 1)) = 0) : US u (T + 1) (V + 1) X Y Z q := ⟨hT, (a.1 12 h2).trans h.2.1, h.2.2.1, fun j hj => by
  rcases Nat.lt_or_ge j (2 * V) with e | e
  · have := h.2.2.2 j e
    rw [ho j e]
    omega
  · rcases (by omega : j = 2 * V ∨ j = 2 * V + 1) with e | e
    · rw [e, h3]; omega
    · rw [e, h4]; omega⟩
theorem US.o13 {S : cS} {T V X Y Z q : Nat} {x : Int32} (h : US S T V X Y Z q) : US (cO S 13 x) T V X Y Z q := ⟨h.1, (cO_n (by decide)).trans h.2.1, h.2.2.1, h.2.2.2⟩
theorem TX.o13 {u : cS} {T V Y q g : Nat} {v x : Int32} (h : TX u T V Y q g v) : TX (cO u 13 x) T V Y q g v := by
  obtain ⟨T2, V2, X2, Y2, Z2, q2, b, c⟩ := h
  exact ⟨T2, V2, X2, Y2, Z2, q2, b.o13, c⟩

def cTypedAt (fu : Nat) : Prop := ∀ (l : Launch) (G : cG) (S : cS) (T : Nat) (V : Nat) (X : Nat) (Y : Nat) (Z : Nat) (q : Nat) (N : Nat) (dp : Nat) (lv : Nat) (n : Int32) (hC : CL S) (hU : US S T V X Y Z q) (hq : q ≤ 1500) (h15 : kK S 15 = 0) (hT : TJ S N) (hdp : dp + fu = 61) (hlv : lv ≤ dp) (hY2 : Y + (6 * fu + 372) ≤ 900) (Hs : Heap), Met l yX5_typed (wC yX5_typed cX5_typed 5 (some .int)) (cRm S (2 * fu + 140) (60 * fu + 6500)) (cPc G S Hs [.ref (ga G 4), .int n, .int (nI lv), .int (nI dp)]) (cQi G S Hs (fun v u => AW [6, 7, 8, 9, 16, 14, 10, 11, 12, 13, 17, 18, 23, 24, 25, 26, 35] [8, 9, 10, 12, 13] S u ∧ (TX u T V Y q (6 * fu + 372) v))) (CC - PT S) (12 * (CC - PT S)) (cA G S Hs.size)
