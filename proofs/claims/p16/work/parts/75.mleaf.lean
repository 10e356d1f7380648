theorem dX8_stops_0 : decode cX8_stops 0 = .ok (.aload_n 0, 1) := by decide +kernel
theorem dX8_stops_1 : decode cX8_stops 1 = .ok (.getfield 184, 3) := by decide +kernel
theorem dX8_stops_4 : decode cX8_stops 4 = .ok (.ifCond .ne 13, 3) := by decide +kernel
theorem dX8_stops_17 : decode cX8_stops 17 = .ok (.return_, 1) := by decide +kernel
theorem dX8_stops_7 : decode cX8_stops 7 = .ok (.aload_n 0, 1) := by decide +kernel
theorem dX8_stops_8 : decode cX8_stops 8 = .ok (.iload_n 1, 1) := by decide +kernel
theorem dX8_stops_9 : decode cX8_stops 9 = .ok (.putfield 184, 3) := by decide +kernel
theorem dX8_stops_12 : decode cX8_stops 12 = .ok (.aload_n 0, 1) := by decide +kernel
theorem dX8_stops_13 : decode cX8_stops 13 = .ok (.iload_n 2, 1) := by decide +kernel
theorem dX8_stops_14 : decode cX8_stops 14 = .ok (.putfield 127, 3) := by decide +kernel
theorem dX8_newType_0 : decode cX8_newType 0 = .ok (.aload_n 0, 1) := by decide +kernel
theorem dX8_newType_1 : decode cX8_newType 1 = .ok (.getfield 168, 3) := by decide +kernel
theorem dX8_newType_4 : decode cX8_newType 4 = .ok (.sipush 602, 3) := by decide +kernel
theorem dX8_newType_7 : decode cX8_newType 7 = .ok (.if_icmp .ne 16, 3) := by decide +kernel
theorem dX8_newType_23 : decode cX8_newType 23 = .ok (.aload_n 0, 1) := by decide +kernel
theorem dX8_newType_24 : decode cX8_newType 24 = .ok (.getfield 28, 3) := by decide +kernel
theorem dX8_newType_27 : decode cX8_newType 27 = .ok (.aload_n 0, 1) := by decide +kernel
theorem dX8_newType_28 : decode cX8_newType 28 = .ok (.getfield 168, 3) := by decide +kernel
theorem dX8_newType_31 : decode cX8_newType 31 = .ok (.iload_n 1, 1) := by decide +kernel
theorem dX8_newType_32 : decode cX8_newType 32 = .ok (.iastore, 1) := by decide +kernel
theorem dX8_newType_33 : decode cX8_newType 33 = .ok (.aload_n 0, 1) := by decide +kernel
theorem dX8_newType_34 : decode cX8_newType 34 = .ok (.getfield 31, 3) := by decide +kernel
theorem dX8_newType_37 : decode cX8_newType 37 = .ok (.aload_n 0, 1) := by decide +kernel
theorem dX8_newType_38 : decode cX8_newType 38 = .ok (.getfield 168, 3) := by decide +kernel
theorem dX8_newType_41 : decode cX8_newType 41 = .ok (.iload_n 2, 1) := by decide +kernel
theorem dX8_newType_42 : decode cX8_newType 42 = .ok (.iastore, 1) := by decide +kernel
theorem dX8_newType_43 : decode cX8_newType 43 = .ok (.aload_n 0, 1) := by decide +kernel
theorem dX8_newType_44 : decode cX8_newType 44 = .ok (.dup, 1) := by decide +kernel
theorem dX8_newType_45 : decode cX8_newType 45 = .ok (.getfield 168, 3) := by decide +kernel
theorem dX8_newType_48 : decode cX8_newType 48 = .ok (.iconst 1, 1) := by decide +kernel
theorem dX8_newType_49 : decode cX8_newType 49 = .ok (.iadd, 1) := by decide +kernel
theorem dX8_newType_50 : decode cX8_newType 50 = .ok (.putfield 168, 3) := by decide +kernel
theorem dX8_newType_53 : decode cX8_newType 53 = .ok (.aload_n 0, 1) := by decide +kernel
theorem dX8_newType_54 : decode cX8_newType 54 = .ok (.getfield 168, 3) := by decide +kernel
theorem dX8_newType_57 : decode cX8_newType 57 = .ok (.iconst 1, 1) := by decide +kernel
theorem dX8_newType_58 : decode cX8_newType 58 = .ok (.isub, 1) := by decide +kernel
theorem dX8_newType_59 : decode cX8_newType 59 = .ok (.ireturn, 1) := by decide +kernel
theorem dX8_newType_10 : decode cX8_newType 10 = .ok (.aload_n 0, 1) := by decide +kernel
theorem dX8_newType_11 : decode cX8_newType 11 = .ok (.bipush (-6), 2) := by decide +kernel
theorem dX8_newType_13 : decode cX8_newType 13 = .ok (.aload_n 0, 1) := by decide +kernel
theorem dX8_newType_14 : decode cX8_newType 14 = .ok (.getfield 202, 3) := by decide +kernel
theorem dX8_newType_17 : decode cX8_newType 17 = .ok (.invokevirtual 205, 3) := by decide +kernel
theorem dX8_newType_20 : decode cX8_newType 20 = .ok (.bipush (-9), 2) := by decide +kernel
theorem dX8_newType_22 : decode cX8_newType 22 = .ok (.ireturn, 1) := by decide +kernel
theorem dX8_newVariable_0 : decode cX8_newVariable 0 = .ok (.aload_n 0, 1) := by decide +kernel
theorem dX8_newVariable_1 : decode cX8_newVariable 1 = .ok (.getfield 171, 3) := by decide +kernel
theorem dX8_newVariable_4 : decode cX8_newVariable 4 = .ok (.sipush 150, 3) := by decide +kernel
theorem dX8_newVariable_7 : decode cX8_newVariable 7 = .ok (.if_icmp .ne 16, 3) := by decide +kernel
theorem dX8_newVariable_23 : decode cX8_newVariable 23 = .ok (.aload_n 0, 1) := by decide +kernel
theorem dX8_newVariable_24 : decode cX8_newVariable 24 = .ok (.iconst 3, 1) := by decide +kernel
theorem dX8_newVariable_25 : decode cX8_newVariable 25 = .ok (.iload_n 1, 1) := by decide +kernel
theorem dX8_newVariable_26 : decode cX8_newVariable 26 = .ok (.invokevirtual 209, 3) := by decide +kernel
theorem dX8_newVariable_29 : decode cX8_newVariable 29 = .ok (.istore_n 2, 1) := by decide +kernel
theorem dX8_newVariable_30 : decode cX8_newVariable 30 = .ok (.iload_n 2, 1) := by decide +kernel
theorem dX8_newVariable_31 : decode cX8_newVariable 31 = .ok (.bipush (-9), 2) := by decide +kernel
theorem dX8_newVariable_33 : decode cX8_newVariable 33 = .ok (.if_icmp .eq 90, 3) := by decide +kernel
theorem dX8_newVariable_123 : decode cX8_newVariable 123 = .ok (.iload_n 2, 1) := by decide +kernel
theorem dX8_newVariable_124 : decode cX8_newVariable 124 = .ok (.ireturn, 1) := by decide +kernel
theorem dX8_newVariable_36 : decode cX8_newVariable 36 = .ok (.aload_n 0, 1) := by decide +kernel
theorem dX8_newVariable_37 : decode cX8_newVariable 37 = .ok (.getfield 34, 3) := by decide +kernel
theorem dX8_newVariable_40 : decode cX8_newVariable 40 = .ok (.iload_n 2, 1) := by decide +kernel
theorem dX8_newVariable_41 : decode cX8_newVariable 41 = .ok (.aload_n 0, 1) := by decide +kernel
theorem dX8_newVariable_42 : decode cX8_newVariable 42 = .ok (.getfield 171, 3) := by decide +kernel
theorem dX8_newVariable_45 : decode cX8_newVariable 45 = .ok (.iastore, 1) := by decide +kernel
theorem dX8_newVariable_46 : decode cX8_newVariable 46 = .ok (.aload_n 0, 1) := by decide +kernel
theorem dX8_newVariable_47 : decode cX8_newVariable 47 = .ok (.getfield 46, 3) := by decide +kernel
theorem dX8_newVariable_50 : decode cX8_newVariable 50 = .ok (.aload_n 0, 1) := by decide +kernel
theorem dX8_newVariable_51 : decode cX8_newVariable 51 = .ok (.getfield 171, 3) := by decide +kernel
theorem dX8_newVariable_54 : decode cX8_newVariable 54 = .ok (.iload_n 2, 1) := by decide +kernel
theorem dX8_newVariable_55 : decode cX8_newVariable 55 = .ok (.iastore, 1) := by decide +kernel
theorem dX8_newVariable_56 : decode cX8_newVariable 56 = .ok (.iconst 0, 1) := by decide +kernel
theorem dX8_newVariable_57 : decode cX8_newVariable 57 = .ok (.istore_n 3, 1) := by decide +kernel
theorem dX8_newVariable_58 : decode cX8_newVariable 58 = .ok (.iload_n 3, 1) := by decide +kernel
theorem dX8_newVariable_59 : decode cX8_newVariable 59 = .ok (.iconst 2, 1) := by decide +kernel
theorem dX8_newVariable_60 : decode cX8_newVariable 60 = .ok (.if_icmp .ge 53, 3) := by decide +kernel
theorem dX8_newVariable_63 : decode cX8_newVariable 63 = .ok (.aload_n 0, 1) := by decide +kernel
theorem dX8_newVariable_64 : decode cX8_newVariable 64 = .ok (.getfield 56, 3) := by decide +kernel
theorem dX8_newVariable_67 : decode cX8_newVariable 67 = .ok (.iconst 2, 1) := by decide +kernel
theorem dX8_newVariable_68 : decode cX8_newVariable 68 = .ok (.aload_n 0, 1) := by decide +kernel
theorem dX8_newVariable_69 : decode cX8_newVariable 69 = .ok (.getfield 171, 3) := by decide +kernel
theorem dX8_newVariable_72 : decode cX8_newVariable 72 = .ok (.imul, 1) := by decide +kernel
theorem dX8_newVariable_73 : decode cX8_newVariable 73 = .ok (.iload_n 3, 1) := by decide +kernel
theorem dX8_newVariable_74 : decode cX8_newVariable 74 = .ok (.iadd, 1) := by decide +kernel
theorem dX8_newVariable_75 : decode cX8_newVariable 75 = .ok (.bipush (-9), 2) := by decide +kernel
theorem dX8_newVariable_77 : decode cX8_newVariable 77 = .ok (.iastore, 1) := by decide +kernel
theorem dX8_newVariable_78 : decode cX8_newVariable 78 = .ok (.aload_n 0, 1) := by decide +kernel
theorem dX8_newVariable_79 : decode cX8_newVariable 79 = .ok (.getfield 59, 3) := by decide +kernel
theorem dX8_newVariable_82 : decode cX8_newVariable 82 = .ok (.iconst 2, 1) := by decide +kernel
theorem dX8_newVariable_83 : decode cX8_newVariable 83 = .ok (.aload_n 0, 1) := by decide +kernel
theorem dX8_newVariable_84 : decode cX8_newVariable 84 = .ok (.getfield 171, 3) := by decide +kernel
theorem dX8_newVariable_87 : decode cX8_newVariable 87 = .ok (.imul, 1) := by decide +kernel
theorem dX8_newVariable_88 : decode cX8_newVariable 88 = .ok (.iload_n 3, 1) := by decide +kernel
theorem dX8_newVariable_89 : decode cX8_newVariable 89 = .ok (.iadd, 1) := by decide +kernel
theorem dX8_newVariable_90 : decode cX8_newVariable 90 = .ok (.bipush (-9), 2) := by decide +kernel
theorem dX8_newVariable_92 : decode cX8_newVariable 92 = .ok (.iastore, 1) := by decide +kernel
theorem dX8_newVariable_93 : decode cX8_newVariable 93 = .ok (.aload_n 0, 1) := by decide +kernel
theorem dX8_newVariable_94 : decode cX8_newVariable 94 = .ok (.getfield 62, 3) := by decide +kernel
theorem dX8_newVariable_97 : decode cX8_newVariable 97 = .ok (.iconst 2, 1) := by decide +kernel
theorem dX8_newVariable_98 : decode cX8_newVariable 98 = .ok (.aload_n 0, 1) := by decide +kernel
theorem dX8_newVariable_99 : decode cX8_newVariable 99 = .ok (.getfield 171, 3) := by decide +kernel
theorem dX8_newVariable_102 : decode cX8_newVariable 102 = .ok (.imul, 1) := by decide +kernel
theorem dX8_newVariable_103 : decode cX8_newVariable 103 = .ok (.iload_n 3, 1) := by decide +kernel
theorem dX8_newVariable_104 : decode cX8_newVariable 104 = .ok (.iadd, 1) := by decide +kernel
theorem dX8_newVariable_105 : decode cX8_newVariable 105 = .ok (.iconst 0, 1) := by decide +kernel
theorem dX8_newVariable_106 : decode cX8_newVariable 106 = .ok (.iastore, 1) := by decide +kernel
theorem dX8_newVariable_107 : decode cX8_newVariable 107 = .ok (.iinc 3 1, 3) := by decide +kernel
theorem dX8_newVariable_110 : decode cX8_newVariable 110 = .ok (.goto (-52), 3) := by decide +kernel
theorem dX8_newVariable_113 : decode cX8_newVariable 113 = .ok (.aload_n 0, 1) := by decide +kernel
theorem dX8_newVariable_114 : decode cX8_newVariable 114 = .ok (.dup, 1) := by decide +kernel
theorem dX8_newVariable_115 : decode cX8_newVariable 115 = .ok (.getfield 171, 3) := by decide +kernel
theorem dX8_newVariable_118 : decode cX8_newVariable 118 = .ok (.iconst 1, 1) := by decide +kernel
theorem dX8_newVariable_119 : decode cX8_newVariable 119 = .ok (.iadd, 1) := by decide +kernel
theorem dX8_newVariable_120 : decode cX8_newVariable 120 = .ok (.putfield 171, 3) := by decide +kernel
theorem dX8_newVariable_10 : decode cX8_newVariable 10 = .ok (.aload_n 0, 1) := by decide +kernel
theorem dX8_newVariable_11 : decode cX8_newVariable 11 = .ok (.bipush (-6), 2) := by decide +kernel
theorem dX8_newVariable_13 : decode cX8_newVariable 13 = .ok (.aload_n 0, 1) := by decide +kernel
theorem dX8_newVariable_14 : decode cX8_newVariable 14 = .ok (.getfield 202, 3) := by decide +kernel
theorem dX8_newVariable_17 : decode cX8_newVariable 17 = .ok (.invokevirtual 205, 3) := by decide +kernel
theorem dX8_newVariable_20 : decode cX8_newVariable 20 = .ok (.bipush (-9), 2) := by decide +kernel
theorem dX8_newVariable_22 : decode cX8_newVariable 22 = .ok (.ireturn, 1) := by decide +kernel
theorem dX8_arrow_0 : decode cX8_arrow 0 = .ok (.aload_n 0, 1) := by decide +kernel
theorem dX8_arrow_1 : decode cX8_arrow 1 = .ok (.getfield 184, 3) := by decide +kernel
theorem dX8_arrow_4 : decode cX8_arrow 4 = .ok (.ifCond .eq 6, 3) := by decide +kernel
theorem dX8_arrow_10 : decode cX8_arrow 10 = .ok (.aload_n 0, 1) := by decide +kernel
theorem dX8_arrow_11 : decode cX8_arrow 11 = .ok (.iconst 1, 1) := by decide +kernel
theorem dX8_arrow_12 : decode cX8_arrow 12 = .ok (.aload_n 0, 1) := by decide +kernel
theorem dX8_arrow_13 : decode cX8_arrow 13 = .ok (.getfield 31, 3) := by decide +kernel
theorem dX8_arrow_16 : decode cX8_arrow 16 = .ok (.iload_n 1, 1) := by decide +kernel
theorem dX8_arrow_17 : decode cX8_arrow 17 = .ok (.iaload, 1) := by decide +kernel
theorem dX8_arrow_18 : decode cX8_arrow 18 = .ok (.aload_n 0, 1) := by decide +kernel
theorem dX8_arrow_19 : decode cX8_arrow 19 = .ok (.getfield 31, 3) := by decide +kernel
theorem dX8_arrow_22 : decode cX8_arrow 22 = .ok (.iload_n 2, 1) := by decide +kernel
theorem dX8_arrow_23 : decode cX8_arrow 23 = .ok (.iaload, 1) := by decide +kernel
theorem dX8_arrow_24 : decode cX8_arrow 24 = .ok (.if_icmp .le 12, 3) := by decide +kernel
theorem dX8_arrow_36 : decode cX8_arrow 36 = .ok (.aload_n 0, 1) := by decide +kernel
theorem dX8_arrow_37 : decode cX8_arrow 37 = .ok (.getfield 31, 3) := by decide +kernel
theorem dX8_arrow_40 : decode cX8_arrow 40 = .ok (.iload_n 2, 1) := by decide +kernel
theorem dX8_arrow_41 : decode cX8_arrow 41 = .ok (.iaload, 1) := by decide +kernel
theorem dX8_arrow_42 : decode cX8_arrow 42 = .ok (.invokevirtual 209, 3) := by decide +kernel
theorem dX8_arrow_45 : decode cX8_arrow 45 = .ok (.istore_n 3, 1) := by decide +kernel
theorem dX8_arrow_46 : decode cX8_arrow 46 = .ok (.iload_n 3, 1) := by decide +kernel
theorem dX8_arrow_47 : decode cX8_arrow 47 = .ok (.bipush (-9), 2) := by decide +kernel
theorem dX8_arrow_49 : decode cX8_arrow 49 = .ok (.if_icmp .eq 17, 3) := by decide +kernel
theorem dX8_arrow_66 : decode cX8_arrow 66 = .ok (.iload_n 3, 1) := by decide +kernel
theorem dX8_arrow_67 : decode cX8_arrow 67 = .ok (.ireturn, 1) := by decide +kernel
theorem dX8_arrow_52 : decode cX8_arrow 52 = .ok (.aload_n 0, 1) := by decide +kernel
theorem dX8_arrow_53 : decode cX8_arrow 53 = .ok (.getfield 34, 3) := by decide +kernel
theorem dX8_arrow_56 : decode cX8_arrow 56 = .ok (.iload_n 3, 1) := by decide +kernel
theorem dX8_arrow_57 : decode cX8_arrow 57 = .ok (.iload_n 1, 1) := by decide +kernel
theorem dX8_arrow_58 : decode cX8_arrow 58 = .ok (.iastore, 1) := by decide +kernel
theorem dX8_arrow_59 : decode cX8_arrow 59 = .ok (.aload_n 0, 1) := by decide +kernel
theorem dX8_arrow_60 : decode cX8_arrow 60 = .ok (.getfield 37, 3) := by decide +kernel
theorem dX8_arrow_63 : decode cX8_arrow 63 = .ok (.iload_n 3, 1) := by decide +kernel
theorem dX8_arrow_64 : decode cX8_arrow 64 = .ok (.iload_n 2, 1) := by decide +kernel
theorem dX8_arrow_65 : decode cX8_arrow 65 = .ok (.iastore, 1) := by decide +kernel
theorem dX8_arrow_27 : decode cX8_arrow 27 = .ok (.aload_n 0, 1) := by decide +kernel
theorem dX8_arrow_28 : decode cX8_arrow 28 = .ok (.getfield 31, 3) := by decide +kernel
theorem dX8_arrow_31 : decode cX8_arrow 31 = .ok (.iload_n 1, 1) := by decide +kernel
theorem dX8_arrow_32 : decode cX8_arrow 32 = .ok (.iaload, 1) := by decide +kernel
theorem dX8_arrow_33 : decode cX8_arrow 33 = .ok (.goto 9, 3) := by decide +kernel
theorem dX8_arrow_7 : decode cX8_arrow 7 = .ok (.bipush (-9), 2) := by decide +kernel
theorem dX8_arrow_9 : decode cX8_arrow 9 = .ok (.ireturn, 1) := by decide +kernel
theorem dX8_row_0 : decode cX8_row 0 = .ok (.aload_n 0, 1) := by decide +kernel
theorem dX8_row_1 : decode cX8_row 1 = .ok (.getfield 184, 3) := by decide +kernel
theorem dX8_row_4 : decode cX8_row 4 = .ok (.ifCond .eq 8, 3) := by decide +kernel
theorem dX8_row_12 : decode cX8_row 12 = .ok (.aload_n 0, 1) := by decide +kernel
theorem dX8_row_13 : decode cX8_row 13 = .ok (.iconst 2, 1) := by decide +kernel
theorem dX8_row_14 : decode cX8_row 14 = .ok (.iconst 0, 1) := by decide +kernel
theorem dX8_row_15 : decode cX8_row 15 = .ok (.invokevirtual 209, 3) := by decide +kernel
theorem dX8_row_18 : decode cX8_row 18 = .ok (.istore_n 1, 1) := by decide +kernel
theorem dX8_row_19 : decode cX8_row 19 = .ok (.iload_n 1, 1) := by decide +kernel
theorem dX8_row_20 : decode cX8_row 20 = .ok (.bipush (-9), 2) := by decide +kernel
theorem dX8_row_22 : decode cX8_row 22 = .ok (.if_icmp .eq 10, 3) := by decide +kernel
theorem dX8_row_32 : decode cX8_row 32 = .ok (.iload_n 1, 1) := by decide +kernel
theorem dX8_row_33 : decode cX8_row 33 = .ok (.ireturn, 1) := by decide +kernel
theorem dX8_row_25 : decode cX8_row 25 = .ok (.aload_n 0, 1) := by decide +kernel
theorem dX8_row_26 : decode cX8_row 26 = .ok (.getfield 34, 3) := by decide +kernel
theorem dX8_row_29 : decode cX8_row 29 = .ok (.iload_n 1, 1) := by decide +kernel
theorem dX8_row_30 : decode cX8_row 30 = .ok (.iconst 0, 1) := by decide +kernel
theorem dX8_row_31 : decode cX8_row 31 = .ok (.iastore, 1) := by decide +kernel
theorem dX8_row_7 : decode cX8_row 7 = .ok (.bipush (-9), 2) := by decide +kernel
theorem dX8_row_9 : decode cX8_row 9 = .ok (.goto 9, 3) := by decide +kernel
theorem dX8_addTo_0 : decode cX8_addTo 0 = .ok (.aload_n 0, 1) := by decide +kernel
theorem dX8_addTo_1 : decode cX8_addTo 1 = .ok (.getfield 40, 3) := by decide +kernel
theorem dX8_addTo_4 : decode cX8_addTo 4 = .ok (.bipush 6, 2) := by decide +kernel
theorem dX8_addTo_6 : decode cX8_addTo 6 = .ok (.iload_n 1, 1) := by decide +kernel
theorem dX8_addTo_7 : decode cX8_addTo 7 = .ok (.imul, 1) := by decide +kernel
theorem dX8_addTo_8 : decode cX8_addTo 8 = .ok (.aload_n 0, 1) := by decide +kernel
theorem dX8_addTo_9 : decode cX8_addTo 9 = .ok (.getfield 34, 3) := by decide +kernel
theorem dX8_addTo_12 : decode cX8_addTo 12 = .ok (.iload_n 1, 1) := by decide +kernel
theorem dX8_addTo_13 : decode cX8_addTo 13 = .ok (.iaload, 1) := by decide +kernel
theorem dX8_addTo_14 : decode cX8_addTo 14 = .ok (.iadd, 1) := by decide +kernel
theorem dX8_addTo_15 : decode cX8_addTo 15 = .ok (.iload_n 2, 1) := by decide +kernel
theorem dX8_addTo_16 : decode cX8_addTo 16 = .ok (.iastore, 1) := by decide +kernel
theorem dX8_addTo_17 : decode cX8_addTo 17 = .ok (.aload_n 0, 1) := by decide +kernel
theorem dX8_addTo_18 : decode cX8_addTo 18 = .ok (.getfield 43, 3) := by decide +kernel
theorem dX8_addTo_21 : decode cX8_addTo 21 = .ok (.bipush 6, 2) := by decide +kernel
theorem dX8_addTo_23 : decode cX8_addTo 23 = .ok (.iload_n 1, 1) := by decide +kernel
theorem dX8_addTo_24 : decode cX8_addTo 24 = .ok (.imul, 1) := by decide +kernel
theorem dX8_addTo_25 : decode cX8_addTo 25 = .ok (.aload_n 0, 1) := by decide +kernel
theorem dX8_addTo_26 : decode cX8_addTo 26 = .ok (.getfield 34, 3) := by decide +kernel
theorem dX8_addTo_29 : decode cX8_addTo 29 = .ok (.iload_n 1, 1) := by decide +kernel
theorem dX8_addTo_30 : decode cX8_addTo 30 = .ok (.iaload, 1) := by decide +kernel
theorem dX8_addTo_31 : decode cX8_addTo 31 = .ok (.iadd, 1) := by decide +kernel
theorem dX8_addTo_32 : decode cX8_addTo 32 = .ok (.iload_n 3, 1) := by decide +kernel
theorem dX8_addTo_33 : decode cX8_addTo 33 = .ok (.iastore, 1) := by decide +kernel
theorem dX8_addTo_34 : decode cX8_addTo 34 = .ok (.aload_n 0, 1) := by decide +kernel
theorem dX8_addTo_35 : decode cX8_addTo 35 = .ok (.getfield 34, 3) := by decide +kernel
theorem dX8_addTo_38 : decode cX8_addTo 38 = .ok (.iload_n 1, 1) := by decide +kernel
theorem dX8_addTo_39 : decode cX8_addTo 39 = .ok (.dup2, 1) := by decide +kernel
theorem dX8_addTo_40 : decode cX8_addTo 40 = .ok (.iaload, 1) := by decide +kernel
theorem dX8_addTo_41 : decode cX8_addTo 41 = .ok (.iconst 1, 1) := by decide +kernel
theorem dX8_addTo_42 : decode cX8_addTo 42 = .ok (.iadd, 1) := by decide +kernel
theorem dX8_addTo_43 : decode cX8_addTo 43 = .ok (.iastore, 1) := by decide +kernel
theorem dX8_addTo_44 : decode cX8_addTo 44 = .ok (.aload_n 0, 1) := by decide +kernel
theorem dX8_addTo_45 : decode cX8_addTo 45 = .ok (.getfield 31, 3) := by decide +kernel
theorem dX8_addTo_48 : decode cX8_addTo 48 = .ok (.iload_n 1, 1) := by decide +kernel
theorem dX8_addTo_49 : decode cX8_addTo 49 = .ok (.aload_n 0, 1) := by decide +kernel
theorem dX8_addTo_50 : decode cX8_addTo 50 = .ok (.getfield 31, 3) := by decide +kernel
theorem dX8_addTo_53 : decode cX8_addTo 53 = .ok (.iload_n 3, 1) := by decide +kernel
theorem dX8_addTo_54 : decode cX8_addTo 54 = .ok (.iaload, 1) := by decide +kernel
theorem dX8_addTo_55 : decode cX8_addTo 55 = .ok (.aload_n 0, 1) := by decide +kernel
theorem dX8_addTo_56 : decode cX8_addTo 56 = .ok (.getfield 31, 3) := by decide +kernel
theorem dX8_addTo_59 : decode cX8_addTo 59 = .ok (.iload_n 1, 1) := by decide +kernel
theorem dX8_addTo_60 : decode cX8_addTo 60 = .ok (.iaload, 1) := by decide +kernel
theorem dX8_addTo_61 : decode cX8_addTo 61 = .ok (.if_icmp .le 12, 3) := by decide +kernel
theorem dX8_addTo_73 : decode cX8_addTo 73 = .ok (.aload_n 0, 1) := by decide +kernel
theorem dX8_addTo_74 : decode cX8_addTo 74 = .ok (.getfield 31, 3) := by decide +kernel
theorem dX8_addTo_77 : decode cX8_addTo 77 = .ok (.iload_n 1, 1) := by decide +kernel
theorem dX8_addTo_78 : decode cX8_addTo 78 = .ok (.iaload, 1) := by decide +kernel
theorem dX8_addTo_79 : decode cX8_addTo 79 = .ok (.iastore, 1) := by decide +kernel
theorem dX8_addTo_80 : decode cX8_addTo 80 = .ok (.return_, 1) := by decide +kernel
theorem dX8_addTo_64 : decode cX8_addTo 64 = .ok (.aload_n 0, 1) := by decide +kernel
theorem dX8_addTo_65 : decode cX8_addTo 65 = .ok (.getfield 31, 3) := by decide +kernel
theorem dX8_addTo_68 : decode cX8_addTo 68 = .ok (.iload_n 3, 1) := by decide +kernel
theorem dX8_addTo_69 : decode cX8_addTo 69 = .ok (.iaload, 1) := by decide +kernel
theorem dX8_addTo_70 : decode cX8_addTo 70 = .ok (.goto 9, 3) := by decide +kernel
theorem dX8_bind_0 : decode cX8_bind 0 = .ok (.iconst 2, 1) := by decide +kernel
theorem dX8_bind_1 : decode cX8_bind 1 = .ok (.aload_n 0, 1) := by decide +kernel
theorem dX8_bind_2 : decode cX8_bind 2 = .ok (.getfield 34, 3) := by decide +kernel
theorem dX8_bind_5 : decode cX8_bind 5 = .ok (.iload_n 1, 1) := by decide +kernel
theorem dX8_bind_6 : decode cX8_bind 6 = .ok (.iaload, 1) := by decide +kernel
theorem dX8_bind_7 : decode cX8_bind 7 = .ok (.imul, 1) := by decide +kernel
theorem dX8_bind_8 : decode cX8_bind 8 = .ok (.iload_n 2, 1) := by decide +kernel
theorem dX8_bind_9 : decode cX8_bind 9 = .ok (.iadd, 1) := by decide +kernel
theorem dX8_bind_10 : decode cX8_bind 10 = .ok (.istore 4, 2) := by decide +kernel
theorem dX8_bind_12 : decode cX8_bind 12 = .ok (.aload_n 0, 1) := by decide +kernel
theorem dX8_bind_13 : decode cX8_bind 13 = .ok (.getfield 50, 3) := by decide +kernel
theorem dX8_bind_16 : decode cX8_bind 16 = .ok (.aload_n 0, 1) := by decide +kernel
theorem dX8_bind_17 : decode cX8_bind 17 = .ok (.getfield 174, 3) := by decide +kernel
theorem dX8_bind_20 : decode cX8_bind 20 = .ok (.iload_n 3, 1) := by decide +kernel
theorem dX8_bind_21 : decode cX8_bind 21 = .ok (.iastore, 1) := by decide +kernel
theorem dX8_bind_22 : decode cX8_bind 22 = .ok (.aload_n 0, 1) := by decide +kernel
theorem dX8_bind_23 : decode cX8_bind 23 = .ok (.getfield 53, 3) := by decide +kernel
theorem dX8_bind_26 : decode cX8_bind 26 = .ok (.aload_n 0, 1) := by decide +kernel
theorem dX8_bind_27 : decode cX8_bind 27 = .ok (.getfield 174, 3) := by decide +kernel
theorem dX8_bind_30 : decode cX8_bind 30 = .ok (.bipush (-9), 2) := by decide +kernel
theorem dX8_bind_32 : decode cX8_bind 32 = .ok (.iastore, 1) := by decide +kernel
theorem dX8_bind_33 : decode cX8_bind 33 = .ok (.aload_n 0, 1) := by decide +kernel
theorem dX8_bind_34 : decode cX8_bind 34 = .ok (.getfield 56, 3) := by decide +kernel
theorem dX8_bind_37 : decode cX8_bind 37 = .ok (.iload 4, 2) := by decide +kernel
theorem dX8_bind_39 : decode cX8_bind 39 = .ok (.iaload, 1) := by decide +kernel
theorem dX8_bind_40 : decode cX8_bind 40 = .ok (.bipush (-9), 2) := by decide +kernel
theorem dX8_bind_42 : decode cX8_bind 42 = .ok (.if_icmp .ne 17, 3) := by decide +kernel
theorem dX8_bind_45 : decode cX8_bind 45 = .ok (.aload_n 0, 1) := by decide +kernel
theorem dX8_bind_46 : decode cX8_bind 46 = .ok (.getfield 56, 3) := by decide +kernel
theorem dX8_bind_49 : decode cX8_bind 49 = .ok (.iload 4, 2) := by decide +kernel
theorem dX8_bind_51 : decode cX8_bind 51 = .ok (.aload_n 0, 1) := by decide +kernel
theorem dX8_bind_52 : decode cX8_bind 52 = .ok (.getfield 174, 3) := by decide +kernel
theorem dX8_bind_55 : decode cX8_bind 55 = .ok (.iastore, 1) := by decide +kernel
theorem dX8_bind_56 : decode cX8_bind 56 = .ok (.goto 19, 3) := by decide +kernel
theorem dX8_bind_75 : decode cX8_bind 75 = .ok (.aload_n 0, 1) := by decide +kernel
theorem dX8_bind_76 : decode cX8_bind 76 = .ok (.getfield 59, 3) := by decide +kernel
theorem dX8_bind_79 : decode cX8_bind 79 = .ok (.iload 4, 2) := by decide +kernel
theorem dX8_bind_81 : decode cX8_bind 81 = .ok (.aload_n 0, 1) := by decide +kernel
theorem dX8_bind_82 : decode cX8_bind 82 = .ok (.getfield 174, 3) := by decide +kernel
theorem dX8_bind_85 : decode cX8_bind 85 = .ok (.iastore, 1) := by decide +kernel
theorem dX8_bind_86 : decode cX8_bind 86 = .ok (.aload_n 0, 1) := by decide +kernel
theorem dX8_bind_87 : decode cX8_bind 87 = .ok (.getfield 62, 3) := by decide +kernel
theorem dX8_bind_90 : decode cX8_bind 90 = .ok (.iload 4, 2) := by decide +kernel
theorem dX8_bind_92 : decode cX8_bind 92 = .ok (.dup2, 1) := by decide +kernel
theorem dX8_bind_93 : decode cX8_bind 93 = .ok (.iaload, 1) := by decide +kernel
theorem dX8_bind_94 : decode cX8_bind 94 = .ok (.iconst 1, 1) := by decide +kernel
theorem dX8_bind_95 : decode cX8_bind 95 = .ok (.iadd, 1) := by decide +kernel
theorem dX8_bind_96 : decode cX8_bind 96 = .ok (.iastore, 1) := by decide +kernel
theorem dX8_bind_97 : decode cX8_bind 97 = .ok (.aload_n 0, 1) := by decide +kernel
theorem dX8_bind_98 : decode cX8_bind 98 = .ok (.dup, 1) := by decide +kernel
theorem dX8_bind_99 : decode cX8_bind 99 = .ok (.getfield 174, 3) := by decide +kernel
theorem dX8_bind_102 : decode cX8_bind 102 = .ok (.iconst 1, 1) := by decide +kernel
theorem dX8_bind_103 : decode cX8_bind 103 = .ok (.iadd, 1) := by decide +kernel
theorem dX8_bind_104 : decode cX8_bind 104 = .ok (.putfield 174, 3) := by decide +kernel
theorem dX8_bind_107 : decode cX8_bind 107 = .ok (.return_, 1) := by decide +kernel
theorem dX8_bind_59 : decode cX8_bind 59 = .ok (.aload_n 0, 1) := by decide +kernel
theorem dX8_bind_60 : decode cX8_bind 60 = .ok (.getfield 53, 3) := by decide +kernel
theorem dX8_bind_63 : decode cX8_bind 63 = .ok (.aload_n 0, 1) := by decide +kernel
theorem dX8_bind_64 : decode cX8_bind 64 = .ok (.getfield 59, 3) := by decide +kernel
theorem dX8_bind_67 : decode cX8_bind 67 = .ok (.iload 4, 2) := by decide +kernel
theorem dX8_bind_69 : decode cX8_bind 69 = .ok (.iaload, 1) := by decide +kernel
theorem dX8_bind_70 : decode cX8_bind 70 = .ok (.aload_n 0, 1) := by decide +kernel
theorem dX8_bind_71 : decode cX8_bind 71 = .ok (.getfield 174, 3) := by decide +kernel
theorem dX8_bind_74 : decode cX8_bind 74 = .ok (.iastore, 1) := by decide +kernel
set_option maxHeartbeats 4000000 in
set_option maxRecDepth 100000 in
/-- stops: the first stop counts -/
theorem m_stops (l : Launch) (G : mG) (hDD : mDD G) (o : Nat → Int32) (F : Nat → Nat → Int32) (z : aS) (ix : Nat → Nat → Nat) (w : Nat) (q : Nat) (hR : MR z ix o F) (hw : w = 1 ∨ w = 2) (hq : q < 120) (sz : Nat) : Met l yX8_stops (wU yX8_stops cX8_stops 3 none) { frames := 0, cells := 0, slots := 0, locals := 0 } (mPc G o F sz [.ref (mh G), .int (sc w), .int (nI q)]) (mQv G sz (fun u => MR (stops z w q) ix u.1 u.2 ∧ Kq [24, 27] o F u)) 0 0 (mA G sz) := by
  refine Met.ofW (cc := cX8_stops) (maxL := 3) (ret := none) (by decide) rfl ?_
  intro p e s m args below meth c s₁ B hml hv
  obtain ⟨rfl, hsz, hP, hK⟩ := hv
  have hx := B.exec
  have hb := B.bytes
  have hr := B.returns
  have htu : ∀ w ∈ WU, w.before _ s = true := fun w h => atoms_spec (ws := (wU yX8_stops cX8_stops 3 none)) B.pre w (List.mem_cons_of_mem _ h)
  have hown : s.vm.findClass RX8 = some m.cls := findClass_of_methodNamed B.named
  have hlocks := B.notSynchronized
  subst hsz
  have hS : va_S (mA G s.heap.size) s.heap s.heap [] := va_S.rf
  have hl := lv_entry ([.ref (mh G), .int (sc w), .int (nI q)]) (n := 3) (Nat.le_of_ble_eq_true rfl)
  rw [lg_entry_eq]
  generalize (lg_sl ([.ref (mh G), .int (sc w), .int (nI q)]) ++ List.replicate (3 - (lg_sl ([.ref (mh G), .int (sc w), .int (nI q)])).length) Slot.unset).toArray = ls at hl ⊢
  have hl : lv_has ls 3 [(0, .ref (mh G)), (1, .int (sc w)), (2, .int (nI q))] := hl
  obtain ⟨H, hHe⟩ : ∃ H : Heap, H = s.heap := ⟨_, rfl⟩
  rw [← hHe] at hP
  have hS : va_S (mA G s.heap.size) s.heap H [] := by rw [hHe]; exact va_S.rf
  refine W.heq hHe ?_
  refine lv_aload_n hx hb dX8_stops_0 rfl (lv_at hl 0 rfl) ?_
  refine m_get (v := .int (sc (sto z))) hx hb htu wu_in hown hK hP 27 (by decide) (htu _ U_45) rfl (m_v hR.1.2.2.2.2.1) dX8_stops_1 ?_
  refine lv_if_ne (tgt := 17) hx hb dX8_stops_4 (by decide) (fun c_1 => ?_) (fun c_1 => ?_)
  · skip
    exact m_vret hx hb hr hK hP hS ⟨(by rw [stops_no (fun h => c_1 (sc_0.mpr h))]; exact hR), Kq.rf⟩ dX8_stops_17 hlocks
  · skip
    refine lv_aload_n hx hb dX8_stops_7 rfl (lv_at hl 0 rfl) ?_
    refine lv_iload_n hx hb dX8_stops_8 rfl (lv_at hl 1 rfl) ?_
    refine m_put (ty := .int) (x := sc w) hx hb htu wu_in hown hK hP hDD hS 27 (by decide) (htu _ U_45) rfl rfl (by decide +kernel) rfl rfl (mO_s27 _ _ _) dX8_stops_9 (fun H locs hP hS => ?_)
    refine lv_aload_n hx hb dX8_stops_12 rfl (lv_at hl 0 rfl) ?_
    refine lv_iload_n hx hb dX8_stops_13 rfl (lv_at hl 2 rfl) ?_
    refine m_put (ty := .int) (x := nI q) hx hb htu wu_in hown hK hP hDD hS 24 (by decide) (htu _ U_43) rfl rfl (by decide +kernel) rfl rfl (mO_s24 _ _ _) dX8_stops_14 (fun H locs hP hS => ?_)
    exact m_vret hx hb hr hK hP hS ⟨hR.r_stops hw hq (sc_0.mp c_1), (Kq.rf.o (by decide)).o (by decide)⟩ dX8_stops_17 hlocks

set_option maxHeartbeats 4000000 in
set_option maxRecDepth 100000 in
/-- newType: one more, or spent -/
theorem m_newType (l : Launch) (G : mG) (hDD : mDD G) (o : Nat → Int32) (F : Nat → Nat → Int32) (z : aS) (ix : Nat → Nat → Nat) (sv : Nat) (lv : Nat) (hR : MR z ix o F) (sz : Nat) : Met l yX8_newType (wU yX8_newType cX8_newType 3 (some .int)) { frames := 1, cells := 0, slots := 0, locals := 22 } (mPc G o F sz [.ref (mh G), .int (nI sv), .int (nI lv)]) (mQi G sz (fun r u => (nT z = 602 ∧ r = -9 ∧ MR (stops z 1 (askn z)) ix u.1 u.2 ∧ Kq [24, 27] o F u) ∨ (nT z ≠ 602 ∧ r = nI (nT z) ∧ u = (upd o 7 (nI (nT z + 1)), fput (fput F 8 (nT z) (nI sv)) 9 (nT z) (nI lv))))) 0 0 (mA G sz) := by
  refine Met.ofW (cc := cX8_newType) (maxL := 3) (ret := (some .int)) (by decide) rfl ?_
  intro p e s m args below meth c s₁ B hml hv
  obtain ⟨rfl, hsz, hP, hK⟩ := hv
  have hx := B.exec
  have hb := B.bytes
  have hr := B.returns
  have htu : ∀ w ∈ WU, w.before _ s = true := fun w h => atoms_spec (ws := (wU yX8_newType cX8_newType 3 (some .int))) B.pre w (List.mem_cons_of_mem _ h)
  have hown : s.vm.findClass RX8 = some m.cls := findClass_of_methodNamed B.named
  have hlocks := B.notSynchronized
  subst hsz
  have hS : va_S (mA G s.heap.size) s.heap s.heap [] := va_S.rf
  have hl := lv_entry ([.ref (mh G), .int (nI sv), .int (nI lv)]) (n := 3) (Nat.le_of_ble_eq_true rfl)
  rw [lg_entry_eq]
  generalize (lg_sl ([.ref (mh G), .int (nI sv), .int (nI lv)]) ++ List.replicate (3 - (lg_sl ([.ref (mh G), .int (nI sv), .int (nI lv)])).length) Slot.unset).toArray = ls at hl ⊢
  have hl : lv_has ls 3 [(0, .ref (mh G)), (1, .int (nI sv)), (2, .int (nI lv))] := hl
  obtain ⟨H, hHe⟩ : ∃ H : Heap, H = s.heap := ⟨_, rfl⟩
  rw [← hHe] at hP
  have hS : va_S (mA G s.heap.size) s.heap H [] := by rw [hHe]; exact va_S.rf
  refine W.heq hHe ?_
  obtain ⟨b1, b2, b3, b4, b5, b6, b7, b8⟩ := hR.2.1
  refine lv_aload_n hx hb dX8_newType_0 rfl (lv_at hl 0 rfl) ?_
  refine m_get (v := .int (nI (nT z))) hx hb htu wu_in hown hK hP 7 (by decide) (htu _ U_39) rfl (m_v hR.1.1) dX8_newType_1 ?_
  refine lv_sipush (v := 602) hx hb dX8_newType_4 (by decide) ?_
  refine lv_icmp_ne (tgt := 23) hx hb dX8_newType_7 (by decide) (fun c_1 => ?_) (fun c_1 => ?_)
  · skip
    have nc_1 : ¬ nT z = 602 := fun h9 => c_1 ((nI_eq (a := nT z) (b := 602) (by omega) (by omega)).mpr h9)
    refine lv_aload_n hx hb dX8_newType_23 rfl (lv_at hl 0 rfl) ?_
    refine m_get (v := .ref (md G 8)) hx hb htu wu_in hown hK hP 8 (by decide) (htu _ U_53) rfl rfl dX8_newType_24 ?_
    refine lv_aload_n hx hb dX8_newType_27 rfl (lv_at hl 0 rfl) ?_
    refine m_get (v := .int (nI (nT z))) hx hb htu wu_in hown hK hP 7 (by decide) (htu _ U_39) rfl (m_v hR.1.1) dX8_newType_28 ?_
    refine lv_iload_n hx hb dX8_newType_31 rfl (lv_at hl 1 rfl) ?_
    refine m_ast (j := nT z) (x := nI sv) hx hb hK hP hDD hS 7 8 rfl (by omega) (by decide) (mW_a8 _ _ _ _ _) dX8_newType_32 (fun H locs hP hS => ?_)
    refine lv_aload_n hx hb dX8_newType_33 rfl (lv_at hl 0 rfl) ?_
    refine m_get (v := .ref (md G 9)) hx hb htu wu_in hown hK hP 9 (by decide) (htu _ U_54) rfl rfl dX8_newType_34 ?_
    refine lv_aload_n hx hb dX8_newType_37 rfl (lv_at hl 0 rfl) ?_
    refine m_get (v := .int (nI (nT z))) hx hb htu wu_in hown hK hP 7 (by decide) (htu _ U_39) rfl (m_v hR.1.1) dX8_newType_38 ?_
    refine lv_iload_n hx hb dX8_newType_41 rfl (lv_at hl 2 rfl) ?_
    refine m_ast (j := nT z) (x := nI lv) hx hb hK hP hDD hS 8 9 rfl (by omega) (by decide) (mW_a9 _ _ _ _ _) dX8_newType_42 (fun H locs hP hS => ?_)
    refine lv_aload_n hx hb dX8_newType_43 rfl (lv_at hl 0 rfl) ?_
    refine lv_dup hx hb dX8_newType_44 rfl ?_
    refine m_get (v := .int (nI (nT z))) hx hb htu wu_in hown hK hP 7 (by decide) (htu _ U_39) rfl (m_v hR.1.1) dX8_newType_45 ?_
    refine lv_iconst (v := 1) hx hb dX8_newType_48 (by decide) ?_
    refine lv_iadd hx hb dX8_newType_49 ?_
    refine m_top (y := nI (nT z + 1)) (nI_add (nT z) 1) ?_
    refine m_put (ty := .int) (x := nI (nT z + 1)) hx hb htu wu_in hown hK hP hDD hS 7 (by decide) (htu _ U_39) rfl rfl (by decide +kernel) rfl rfl (mO_s7 _ _ _) dX8_newType_50 (fun H locs hP hS => ?_)
    refine lv_aload_n hx hb dX8_newType_53 rfl (lv_at hl 0 rfl) ?_
    refine m_get (v := .int (nI (nT z + 1))) hx hb htu wu_in hown hK hP 7 (by decide) (htu _ U_39) rfl rfl dX8_newType_54 ?_
    refine lv_iconst (v := 1) hx hb dX8_newType_57 (by decide) ?_
    refine lv_isub hx hb dX8_newType_58 ?_
    refine m_top (y := nI (nT z)) (nI_pred _) ?_
    exact m_iret (v := nI (nT z)) hx hb hr hK hP hS (Or.inr ⟨nc_1, rfl, rfl⟩) dX8_newType_59 hlocks
  · skip
    have nc_1 : nT z = 602 := (nI_eq (a := nT z) (b := 602) (by omega) (by omega)).mp c_1
    refine lv_aload_n hx hb dX8_newType_10 rfl (lv_at hl 0 rfl) ?_
    refine lv_bipush (v := (-6)) hx hb dX8_newType_11 (by decide) ?_
    refine lv_aload_n hx hb dX8_newType_13 rfl (lv_at hl 0 rfl) ?_
    refine m_get (v := .int (nI (askn z))) hx hb htu wu_in hown hK hP 25 (by decide) (htu _ U_61) rfl (m_v hR.1.2.2.2.2.2.2.1) dX8_newType_14 ?_
    refine m_cv (m_runV (As := [.int ((-6)), .int (nI (askn z))]) (rest := []) ⟨hx, hb, hml, hown, htu⟩ (m_stops l G hDD o F z ix 1 ((askn z)) hR ((Or.inl rfl)) ((by omega)) H.size) (cwV 2 htu gU_X8_stops rfl rfl rfl (by decide +kernel) ⟨Nat.le_of_ble_eq_true rfl, Nat.le_of_ble_eq_true rfl⟩) hP hK rfl hl.1 rfl (lv_room (Nat.le_of_ble_eq_true rfl)) dX8_newType_17) hS (fun o_3 F_4 H locs hw_5 hP hS => ?_)
    dsimp only at hw_5
    refine lv_bipush (v := (-9)) hx hb dX8_newType_20 (by decide) ?_
    exact m_iret (v := (-9)) hx hb hr hK hP hS (Or.inl ⟨nc_1, rfl, hw_5.1, hw_5.2⟩) dX8_newType_22 hlocks

set_option maxHeartbeats 4000000 in
set_option maxRecDepth 100000 in
/-- newVariable -/
theorem m_newVariable (l : Launch) (G : mG) (hDD : mDD G) (o : Nat → Int32) (F : Nat → Nat → Int32) (z : aS) (ix : Nat → Nat → Nat) (lv : Nat) (hR : MR z ix o F) (hlv : lv ≤ 100) (sz : Nat) : Met l yX8_newVariable (wU yX8_newVariable cX8_newVariable 4 (some .int)) { frames := 2, cells := 0, slots := 0, locals := 44 } (mPc G o F sz [.ref (mh G), .int (nI lv)]) (mQi G sz (fun r u => ((r = -9 ∧ sto (mkV z lv).1 ≠ 0) ∨ (r = nI (nT z) ∧ mkV z lv = (newV z lv, nT z))) ∧ MR (mkV z lv).1 ix u.1 u.2 ∧ Kq [7, 14, 24, 27, 8, 9, 10, 15, 19, 20, 21] o F u)) 0 0 (mA G sz) := by
  refine Met.ofW (cc := cX8_newVariable) (maxL := 4) (ret := (some .int)) (by decide) rfl ?_
  intro p e s m args below meth c s₁ B hml hv
  obtain ⟨rfl, hsz, hP, hK⟩ := hv
  have hx := B.exec
  have hb := B.bytes
  have hr := B.returns
  have htu : ∀ w ∈ WU, w.before _ s = true := fun w h => atoms_spec (ws := (wU yX8_newVariable cX8_newVariable 4 (some .int))) B.pre w (List.mem_cons_of_mem _ h)
  have hown : s.vm.findClass RX8 = some m.cls := findClass_of_methodNamed B.named
  have hlocks := B.notSynchronized
  subst hsz
  have hS : va_S (mA G s.heap.size) s.heap s.heap [] := va_S.rf
  have hl := lv_entry ([.ref (mh G), .int (nI lv)]) (n := 4) (Nat.le_of_ble_eq_true rfl)
  rw [lg_entry_eq]
  generalize (lg_sl ([.ref (mh G), .int (nI lv)]) ++ List.replicate (4 - (lg_sl ([.ref (mh G), .int (nI lv)])).length) Slot.unset).toArray = ls at hl ⊢
  have hl : lv_has ls 4 [(0, .ref (mh G)), (1, .int (nI lv))] := hl
  obtain ⟨H, hHe⟩ : ∃ H : Heap, H = s.heap := ⟨_, rfl⟩
  rw [← hHe] at hP
  have hS : va_S (mA G s.heap.size) s.heap H [] := by rw [hHe]; exact va_S.rf
  refine W.heq hHe ?_
  obtain ⟨b1, b2, b3, b4, b5, b6, b7, b8⟩ := hR.2.1
  refine lv_aload_n hx hb dX8_newVariable_0 rfl (lv_at hl 0 rfl) ?_
  refine m_get (v := .int (nI (nV z))) hx hb htu wu_in hown hK hP 14 (by decide) (htu _ U_40) rfl (m_v hR.1.2.1) dX8_newVariable_1 ?_
  refine lv_sipush (v := 150) hx hb dX8_newVariable_4 (by decide) ?_
  refine lv_icmp_ne (tgt := 23) hx hb dX8_newVariable_7 (by decide) (fun c_1 => ?_) (fun c_1 => ?_)
  · skip
    have nc_1 : ¬ nV z = 150 := fun h9 => c_1 ((nI_eq (a := nV z) (b := 150) (by omega) (by omega)).mpr h9)
    refine lv_aload_n hx hb dX8_newVariable_23 rfl (lv_at hl 0 rfl) ?_
    refine lv_iconst (v := 3) hx hb dX8_newVariable_24 (by decide) ?_
    refine lv_iload_n hx hb dX8_newVariable_25 rfl (lv_at hl 1 rfl) ?_
    refine m_ci (m_runV (As := [.int 3, .int (nI lv)]) (rest := []) ⟨hx, hb, hml, hown, htu⟩ (m_newType l G hDD o F z ix 3 lv hR H.size) (cwV 2 htu gU_X8_newType rfl rfl rfl (by decide +kernel) ⟨Nat.le_of_ble_eq_true rfl, Nat.le_of_ble_eq_true rfl⟩) hP hK rfl hl.1 rfl (lv_room (Nat.le_of_ble_eq_true rfl)) dX8_newVariable_26) hS (fun r_2 o_3 F_4 H locs hw_5 hP hS => ?_)
    dsimp only at hw_5
    rcases hw_5 with ⟨g1, g2, g3, g4⟩ | ⟨g1, g2, g3⟩
    · skip
      subst g2
      refine lv_istore_n (lv' := [(2, .int ((-9))), (0, .ref (mh G)), (1, .int (nI lv))]) hx hb dX8_newVariable_29 rfl hl (by decide) rfl (fun ls hl => ?_)
      refine lv_iload_n hx hb dX8_newVariable_30 rfl (lv_at hl 0 rfl) ?_
      refine lv_bipush (v := (-9)) hx hb dX8_newVariable_31 (by decide) ?_
      refine lv_icmp_eq (tgt := 123) hx hb dX8_newVariable_33 (by decide) (fun c_6 => ?_) (fun c_6 => absurd (by decide) c_6)
      refine lv_iload_n hx hb dX8_newVariable_123 rfl (lv_at hl 0 rfl) ?_
      exact m_iret (v := (-9)) hx hb hr hK hP hS (by rw [(show mkV z lv = (stops z 1 (askn z), 0) from (if_neg nc_1).trans (if_pos g1))]; exact ⟨Or.inl ⟨rfl, stops_sto hR⟩, g3, g4.mono (by decide)⟩) dX8_newVariable_124 hlocks
    · skip
      subst g2
      obtain ⟨rfl, rfl⟩ := Prod.mk.inj g3
      refine lv_istore_n (lv' := [(2, .int (nI (nT z))), (0, .ref (mh G)), (1, .int (nI lv))]) hx hb dX8_newVariable_29 rfl hl (by decide) rfl (fun ls hl => ?_)
      refine lv_iload_n hx hb dX8_newVariable_30 rfl (lv_at hl 0 rfl) ?_
      refine lv_bipush (v := (-9)) hx hb dX8_newVariable_31 (by decide) ?_
      refine lv_icmp_eq (tgt := 123) hx hb dX8_newVariable_33 (by decide) (fun c_7 => absurd c_7 (nI_neg (by decide) (by omega))) (fun c_7 => ?_)
      refine lv_aload_n hx hb dX8_newVariable_36 rfl (lv_at hl 1 rfl) ?_
      refine m_get (v := .ref (md G 10)) hx hb htu wu_in hown hK hP 10 (by decide) (htu _ U_80) rfl rfl dX8_newVariable_37 ?_
      refine lv_iload_n hx hb dX8_newVariable_40 rfl (lv_at hl 0 rfl) ?_
      refine lv_aload_n hx hb dX8_newVariable_41 rfl (lv_at hl 1 rfl) ?_
      refine m_get (v := .int (nI (nV z))) hx hb htu wu_in hown hK hP 14 (by decide) (htu _ U_40) rfl (m_v hR.1.2.1) dX8_newVariable_42 ?_
      refine m_ast (j := nT z) (x := nI (nV z)) hx hb hK hP hDD hS 9 10 rfl (by omega) (by decide) (mW_a10 _ _ _ _ _) dX8_newVariable_45 (fun H locs hP hS => ?_)
      refine lv_aload_n hx hb dX8_newVariable_46 rfl (lv_at hl 1 rfl) ?_
      refine m_get (v := .ref (md G 15)) hx hb htu wu_in hown hK hP 15 (by decide) (htu _ U_131) rfl rfl dX8_newVariable_47 ?_
      refine lv_aload_n hx hb dX8_newVariable_50 rfl (lv_at hl 1 rfl) ?_
      refine m_get (v := .int (nI (nV z))) hx hb htu wu_in hown hK hP 14 (by decide) (htu _ U_40) rfl (m_v hR.1.2.1) dX8_newVariable_51 ?_
      refine lv_iload_n hx hb dX8_newVariable_54 rfl (lv_at hl 0 rfl) ?_
      refine m_ast (j := nV z) (x := nI (nT z)) hx hb hK hP hDD hS 13 15 rfl (by omega) (by decide) (mW_a15 _ _ _ _ _) dX8_newVariable_55 (fun H locs hP hS => ?_)
      refine lv_iconst (v := 0) hx hb dX8_newVariable_56 (by decide) ?_
      refine lv_istore_n (lv' := [(3, .int 0), (2, .int (nI (nT z))), (0, .ref (mh G)), (1, .int (nI lv))]) hx hb dX8_newVariable_57 rfl hl (by decide) rfl (fun ls hl => ?_)
      refine lv_iload_n hx hb dX8_newVariable_58 rfl (lv_at hl 0 rfl) ?_
      refine lv_iconst (v := 2) hx hb dX8_newVariable_59 (by decide) ?_
      refine lv_icmp_ge (tgt := 113) hx hb dX8_newVariable_60 (by decide) (fun c_8 => absurd c_8 (by decide)) (fun c_8 => ?_)
      refine lv_aload_n hx hb dX8_newVariable_63 rfl (lv_at hl 2 rfl) ?_
      refine m_get (v := .ref (md G 19)) hx hb htu wu_in hown hK hP 19 (by decide) (htu _ U_117) rfl rfl dX8_newVariable_64 ?_
      refine lv_iconst (v := 2) hx hb dX8_newVariable_67 (by decide) ?_
      refine lv_aload_n hx hb dX8_newVariable_68 rfl (lv_at hl 2 rfl) ?_
      refine m_get (v := .int (nI (nV z))) hx hb htu wu_in hown hK hP 14 (by decide) (htu _ U_40) rfl (m_v hR.1.2.1) dX8_newVariable_69 ?_
      refine lv_imul hx hb dX8_newVariable_72 ?_
      refine m_top (y := nI (2 * (nV z))) (pk_mul 2 (nV z)) ?_
      refine lv_iload_n hx hb dX8_newVariable_73 rfl (lv_at hl 0 rfl) ?_
      refine lv_iadd hx hb dX8_newVariable_74 ?_
      refine m_top (y := nI (2 * (nV z))) (Int32.add_zero _) ?_
      refine lv_bipush (v := (-9)) hx hb dX8_newVariable_75 (by decide) ?_
      refine m_ast (j := 2 * (nV z)) (x := (-9)) hx hb hK hP hDD hS 16 19 rfl (by omega) (by decide) (mW_a19 _ _ _ _ _) dX8_newVariable_77 (fun H locs hP hS => ?_)
      refine lv_aload_n hx hb dX8_newVariable_78 rfl (lv_at hl 2 rfl) ?_
      refine m_get (v := .ref (md G 20)) hx hb htu wu_in hown hK hP 20 (by decide) (htu _ U_132) rfl rfl dX8_newVariable_79 ?_
      refine lv_iconst (v := 2) hx hb dX8_newVariable_82 (by decide) ?_
      refine lv_aload_n hx hb dX8_newVariable_83 rfl (lv_at hl 2 rfl) ?_
      refine m_get (v := .int (nI (nV z))) hx hb htu wu_in hown hK hP 14 (by decide) (htu _ U_40) rfl (m_v hR.1.2.1) dX8_newVariable_84 ?_
      refine lv_imul hx hb dX8_newVariable_87 ?_
      refine m_top (y := nI (2 * (nV z))) (pk_mul 2 (nV z)) ?_
      refine lv_iload_n hx hb dX8_newVariable_88 rfl (lv_at hl 0 rfl) ?_
      refine lv_iadd hx hb dX8_newVariable_89 ?_
      refine m_top (y := nI (2 * (nV z))) (Int32.add_zero _) ?_
      refine lv_bipush (v := (-9)) hx hb dX8_newVariable_90 (by decide) ?_
      refine m_ast (j := 2 * (nV z)) (x := (-9)) hx hb hK hP hDD hS 17 20 rfl (by omega) (by decide) (mW_a20 _ _ _ _ _) dX8_newVariable_92 (fun H locs hP hS => ?_)
      refine lv_aload_n hx hb dX8_newVariable_93 rfl (lv_at hl 2 rfl) ?_
      refine m_get (v := .ref (md G 21)) hx hb htu wu_in hown hK hP 21 (by decide) (htu _ U_116) rfl rfl dX8_newVariable_94 ?_
      refine lv_iconst (v := 2) hx hb dX8_newVariable_97 (by decide) ?_
      refine lv_aload_n hx hb dX8_newVariable_98 rfl (lv_at hl 2 rfl) ?_
      refine m_get (v := .int (nI (nV z))) hx hb htu wu_in hown hK hP 14 (by decide) (htu _ U_40) rfl (m_v hR.1.2.1) dX8_newVariable_99 ?_
      refine lv_imul hx hb dX8_newVariable_102 ?_
      refine m_top (y := nI (2 * (nV z))) (pk_mul 2 (nV z)) ?_
      refine lv_iload_n hx hb dX8_newVariable_103 rfl (lv_at hl 0 rfl) ?_
      refine lv_iadd hx hb dX8_newVariable_104 ?_
      refine m_top (y := nI (2 * (nV z))) (Int32.add_zero _) ?_
      refine lv_iconst (v := 0) hx hb dX8_newVariable_105 (by decide) ?_
      refine m_ast (j := 2 * (nV z)) (x := 0) hx hb hK hP hDD hS 18 21 rfl (by omega) (by decide) (mW_a21 _ _ _ _ _) dX8_newVariable_106 (fun H locs hP hS => ?_)
      refine lv_iinc (v := 1) (lv' := [(3, .int 1), (2, .int (nI (nT z))), (0, .ref (mh G)), (1, .int (nI lv))]) hx hb dX8_newVariable_107 hl (k := 0) rfl (by decide) (by decide) rfl (fun ls hl => ?_)
      refine lv_goto (tgt := 58) hx hb dX8_newVariable_110 (by decide) ?_
      refine lv_iload_n hx hb dX8_newVariable_58 rfl (lv_at hl 0 rfl) ?_
      refine lv_iconst (v := 2) hx hb dX8_newVariable_59 (by decide) ?_
      refine lv_icmp_ge (tgt := 113) hx hb dX8_newVariable_60 (by decide) (fun c_9 => absurd c_9 (by decide)) (fun c_9 => ?_)
      refine lv_aload_n hx hb dX8_newVariable_63 rfl (lv_at hl 2 rfl) ?_
      refine m_get (v := .ref (md G 19)) hx hb htu wu_in hown hK hP 19 (by decide) (htu _ U_117) rfl rfl dX8_newVariable_64 ?_
      refine lv_iconst (v := 2) hx hb dX8_newVariable_67 (by decide) ?_
      refine lv_aload_n hx hb dX8_newVariable_68 rfl (lv_at hl 2 rfl) ?_
      refine m_get (v := .int (nI (nV z))) hx hb htu wu_in hown hK hP 14 (by decide) (htu _ U_40) rfl (m_v hR.1.2.1) dX8_newVariable_69 ?_
      refine lv_imul hx hb dX8_newVariable_72 ?_
      refine m_top (y := nI (2 * (nV z))) (pk_mul 2 (nV z)) ?_
      refine lv_iload_n hx hb dX8_newVariable_73 rfl (lv_at hl 0 rfl) ?_
      refine lv_iadd hx hb dX8_newVariable_74 ?_
      refine m_top (y := nI (2 * (nV z) + 1)) (nI_add (2 * (nV z)) 1) ?_
      refine lv_bipush (v := (-9)) hx hb dX8_newVariable_75 (by decide) ?_
      refine m_ast (j := 2 * (nV z) + 1) (x := (-9)) hx hb hK hP hDD hS 16 19 rfl (by omega) (by decide) (mW_a19 _ _ _ _ _) dX8_newVariable_77 (fun H locs hP hS => ?_)
      refine lv_aload_n hx hb dX8_newVariable_78 rfl (lv_at hl 2 rfl) ?_
      refine m_get (v := .ref (md G 20)) hx hb htu wu_in hown hK hP 20 (by decide) (htu _ U_132) rfl rfl dX8_newVariable_79 ?_
      refine lv_iconst (v := 2) hx hb dX8_newVariable_82 (by decide) ?_
      refine lv_aload_n hx hb dX8_newVariable_83 rfl (lv_at hl 2 rfl) ?_
      refine m_get (v := .int (nI (nV z))) hx hb htu wu_in hown hK hP 14 (by decide) (htu _ U_40) rfl (m_v hR.1.2.1) dX8_newVariable_84 ?_
      refine lv_imul hx hb dX8_newVariable_87 ?_
      refine m_top (y := nI (2 * (nV z))) (pk_mul 2 (nV z)) ?_
      refine lv_iload_n hx hb dX8_newVariable_88 rfl (lv_at hl 0 rfl) ?_
      refine lv_iadd hx hb dX8_newVariable_89 ?_
      refine m_top (y := nI (2 * (nV z) + 1)) (nI_add (2 * (nV z)) 1) ?_
      refine lv_bipush (v := (-9)) hx hb dX8_newVariable_90 (by decide) ?_
      refine m_ast (j := 2 * (nV z) + 1) (x := (-9)) hx hb hK hP hDD hS 17 20 rfl (by omega) (by decide) (mW_a20 _ _ _ _ _) dX8_newVariable_92 (fun H locs hP hS => ?_)
      refine lv_aload_n hx hb dX8_newVariable_93 rfl (lv_at hl 2 rfl) ?_
      refine m_get (v := .ref (md G 21)) hx hb htu wu_in hown hK hP 21 (by decide) (htu _ U_116) rfl rfl dX8_newVariable_94 ?_
      refine lv_iconst (v := 2) hx hb dX8_newVariable_97 (by decide) ?_
      refine lv_aload_n hx hb dX8_newVariable_98 rfl (lv_at hl 2 rfl) ?_
      refine m_get (v := .int (nI (nV z))) hx hb htu wu_in hown hK hP 14 (by decide) (htu _ U_40) rfl (m_v hR.1.2.1) dX8_newVariable_99 ?_
      refine lv_imul hx hb dX8_newVariable_102 ?_
      refine m_top (y := nI (2 * (nV z))) (pk_mul 2 (nV z)) ?_
      refine lv_iload_n hx hb dX8_newVariable_103 rfl (lv_at hl 0 rfl) ?_
      refine lv_iadd hx hb dX8_newVariable_104 ?_
      refine m_top (y := nI (2 * (nV z) + 1)) (nI_add (2 * (nV z)) 1) ?_
      refine lv_iconst (v := 0) hx hb dX8_newVariable_105 (by decide) ?_
      refine m_ast (j := 2 * (nV z) + 1) (x := 0) hx hb hK hP hDD hS 18 21 rfl (by omega) (by decide) (mW_a21 _ _ _ _ _) dX8_newVariable_106 (fun H locs hP hS => ?_)
      refine lv_iinc (v := 2) (lv' := [(3, .int 2), (2, .int (nI (nT z))), (0, .ref (mh G)), (1, .int (nI lv))]) hx hb dX8_newVariable_107 hl (k := 0) rfl (by decide) (by decide) rfl (fun ls hl => ?_)
      refine lv_goto (tgt := 58) hx hb dX8_newVariable_110 (by decide) ?_
      refine lv_iload_n hx hb dX8_newVariable_58 rfl (lv_at hl 0 rfl) ?_
      refine lv_iconst (v := 2) hx hb dX8_newVariable_59 (by decide) ?_
      refine lv_icmp_ge (tgt := 113) hx hb dX8_newVariable_60 (by decide) (fun c_10 => ?_) (fun c_10 => absurd (by decide) c_10)
      refine lv_aload_n hx hb dX8_newVariable_113 rfl (lv_at hl 2 rfl) ?_
      refine lv_dup hx hb dX8_newVariable_114 rfl ?_
      refine m_get (v := .int (nI (nV z))) hx hb htu wu_in hown hK hP 14 (by decide) (htu _ U_40) rfl (m_v hR.1.2.1) dX8_newVariable_115 ?_
      refine lv_iconst (v := 1) hx hb dX8_newVariable_118 (by decide) ?_
      refine lv_iadd hx hb dX8_newVariable_119 ?_
      refine m_top (y := nI (nV z + 1)) (nI_add (nV z) 1) ?_
      refine m_put (ty := .int) (x := nI (nV z + 1)) hx hb htu wu_in hown hK hP hDD hS 14 (by decide) (htu _ U_40) rfl rfl (by decide +kernel) rfl rfl (mO_s14 _ _ _) dX8_newVariable_120 (fun H locs hP hS => ?_)
      refine lv_iload_n hx hb dX8_newVariable_123 rfl (lv_at hl 1 rfl) ?_
      exact m_iret (v := nI (nT z)) hx hb hr hK hP hS (by rw [(show mkV z lv = (newV z lv, nT z) from (if_neg nc_1).trans (if_neg g1))]; exact ⟨Or.inr ⟨rfl, rfl⟩, hR.r_newV nc_1 g1 hlv rfl rfl ⟨rfl, rfl, rfl, rfl, rfl, rfl⟩ rfl rfl rfl rfl rfl rfl rfl ⟨rfl, rfl, rfl, rfl, rfl, rfl, rfl⟩, (Kq.F (Kq.F (Kq.F (Kq.F (Kq.F (Kq.F (Kq.F (Kq.F (Kq.F (Kq.F (Kq.o (Kq.o Kq.rf (by decide)) (by decide)) (by decide)) (by decide)) (by decide)) (by decide)) (by decide)) (by decide)) (by decide)) (by decide)) (by decide)) (by decide))⟩) dX8_newVariable_124 hlocks
  · skip
    have nc_1 : nV z = 150 := (nI_eq (a := nV z) (b := 150) (by omega) (by omega)).mp c_1
    refine lv_aload_n hx hb dX8_newVariable_10 rfl (lv_at hl 0 rfl) ?_
    refine lv_bipush (v := (-6)) hx hb dX8_newVariable_11 (by decide) ?_
    refine lv_aload_n hx hb dX8_newVariable_13 rfl (lv_at hl 0 rfl) ?_
    refine m_get (v := .int (nI (askn z))) hx hb htu wu_in hown hK hP 25 (by decide) (htu _ U_61) rfl (m_v hR.1.2.2.2.2.2.2.1) dX8_newVariable_14 ?_
    refine m_cv (m_runV (As := [.int ((-6)), .int (nI (askn z))]) (rest := []) ⟨hx, hb, hml, hown, htu⟩ (m_stops l G hDD o F z ix 1 ((askn z)) hR ((Or.inl rfl)) ((by omega)) H.size) (cwV 2 htu gU_X8_stops rfl rfl rfl (by decide +kernel) ⟨Nat.le_of_ble_eq_true rfl, Nat.le_of_ble_eq_true rfl⟩) hP hK rfl hl.1 rfl (lv_room (Nat.le_of_ble_eq_true rfl)) dX8_newVariable_17) hS (fun o_12 F_13 H locs hw_14 hP hS => ?_)
    dsimp only at hw_14
    refine lv_bipush (v := (-9)) hx hb dX8_newVariable_20 (by decide) ?_
    exact m_iret (v := (-9)) hx hb hr hK hP hS (by rw [(show mkV z lv = (stops z 1 (askn z), 0) from if_pos nc_1)]; exact ⟨Or.inl ⟨rfl, stops_sto hR⟩, hw_14.1, hw_14.2.mono (by decide)⟩) dX8_newVariable_22 hlocks

set_option maxHeartbeats 4000000 in
set_option maxRecDepth 100000 in
/-- arrow -/
theorem m_arrow (l : Launch) (G : mG) (hDD : mDD G) (o : Nat → Int32) (F : Nat → Nat → Int32) (z : aS) (ix : Nat → Nat → Nat) (x1 : Nat) (x2 : Nat) (av : Int32) (bv : Int32) (hR : MR z ix o F) (hab : sto z = 0 → av = nI x1 ∧ bv = nI x2 ∧ x1 < nT z ∧ x2 < nT z) (sz : Nat) : Met l yX8_arrow (wU yX8_arrow cX8_arrow 4 (some .int)) { frames := 2, cells := 0, slots := 0, locals := 44 } (mPc G o F sz [.ref (mh G), .int av, .int bv]) (mQi G sz (fun r u => (sto (mkA z x1 x2).1 = 0 → r = nI (mkA z x1 x2).2 ∧ (mkA z x1 x2).2 < nT (mkA z x1 x2).1) ∧ MR (mkA z x1 x2).1 ix u.1 u.2 ∧ Kq [7, 24, 27, 8, 9, 10, 11] o F u)) 0 0 (mA G sz) := by
  refine Met.ofW (cc := cX8_arrow) (maxL := 4) (ret := (some .int)) (by decide) rfl ?_
  intro p e s m args below meth c s₁ B hml hv
  obtain ⟨rfl, hsz, hP, hK⟩ := hv
  have hx := B.exec
  have hb := B.bytes
  have hr := B.returns
  have htu : ∀ w ∈ WU, w.before _ s = true := fun w h => atoms_spec (ws := (wU yX8_arrow cX8_arrow 4 (some .int))) B.pre w (List.mem_cons_of_mem _ h)
  have hown : s.vm.findClass RX8 = some m.cls := findClass_of_methodNamed B.named
  have hlocks := B.notSynchronized
  subst hsz
  have hS : va_S (mA G s.heap.size) s.heap s.heap [] := va_S.rf
  have hl := lv_entry ([.ref (mh G), .int av, .int bv]) (n := 4) (Nat.le_of_ble_eq_true rfl)
  rw [lg_entry_eq]
  generalize (lg_sl ([.ref (mh G), .int av, .int bv]) ++ List.replicate (4 - (lg_sl ([.ref (mh G), .int av, .int bv])).length) Slot.unset).toArray = ls at hl ⊢
  have hl : lv_has ls 4 [(0, .ref (mh G)), (1, .int av), (2, .int bv)] := hl
  obtain ⟨H, hHe⟩ : ∃ H : Heap, H = s.heap := ⟨_, rfl⟩
  rw [← hHe] at hP
  have hS : va_S (mA G s.heap.size) s.heap H [] := by rw [hHe]; exact va_S.rf
  refine W.heq hHe ?_
  obtain ⟨b1, b2, b3, b4, b5, b6, b7, b8⟩ := hR.2.1
  refine lv_aload_n hx hb dX8_arrow_0 rfl (lv_at hl 0 rfl) ?_
  refine m_get (v := .int (sc (sto z))) hx hb htu wu_in hown hK hP 27 (by decide) (htu _ U_45) rfl (m_v hR.1.2.2.2.2.1) dX8_arrow_1 ?_
  refine lv_if_eq (tgt := 10) hx hb dX8_arrow_4 (by decide) (fun c_1 => ?_) (fun c_1 => ?_)
  · skip
    have h0 : sto z = 0 := sc_0.mp c_1
    obtain ⟨rfl, rfl, hx1, hx2⟩ := hab h0
    have l1 := (hR.2.2.1 x1 hx1).2.2.2
    have l2 := (hR.2.2.1 x2 hx2).2.2.2
    refine lv_aload_n hx hb dX8_arrow_10 rfl (lv_at hl 0 rfl) ?_
    refine lv_iconst (v := 1) hx hb dX8_arrow_11 (by decide) ?_
    refine lv_aload_n hx hb dX8_arrow_12 rfl (lv_at hl 0 rfl) ?_
    refine m_get (v := .ref (md G 9)) hx hb htu wu_in hown hK hP 9 (by decide) (htu _ U_54) rfl rfl dX8_arrow_13 ?_
    refine lv_iload_n hx hb dX8_arrow_16 rfl (lv_at hl 1 rfl) ?_
    refine m_ald (j := x1) (v := nI (lev z x1)) hx hb hK hP 8 9 rfl (by omega) (by decide) (hR.2.2.1 x1 hx1).2.1 dX8_arrow_17 ?_
    refine lv_aload_n hx hb dX8_arrow_18 rfl (lv_at hl 0 rfl) ?_
    refine m_get (v := .ref (md G 9)) hx hb htu wu_in hown hK hP 9 (by decide) (htu _ U_54) rfl rfl dX8_arrow_19 ?_
    refine lv_iload_n hx hb dX8_arrow_22 rfl (lv_at hl 2 rfl) ?_
    refine m_ald (j := x2) (v := nI (lev z x2)) hx hb hK hP 8 9 rfl (by omega) (by decide) (hR.2.2.1 x2 hx2).2.1 dX8_arrow_23 ?_
    refine lv_icmp_le (tgt := 36) hx hb dX8_arrow_24 (by decide) (fun c_2 => ?_) (fun c_2 => ?_)
    · skip
      have nc_2 : lev z x1 ≤ lev z x2 := (nI_leI (a := lev z x1) (b := lev z x2) (by omega) (by omega)).mp c_2
      refine lv_aload_n hx hb dX8_arrow_36 rfl (lv_at hl 0 rfl) ?_
      refine m_get (v := .ref (md G 9)) hx hb htu wu_in hown hK hP 9 (by decide) (htu _ U_54) rfl rfl dX8_arrow_37 ?_
      refine lv_iload_n hx hb dX8_arrow_40 rfl (lv_at hl 2 rfl) ?_
      refine m_ald (j := x2) (v := nI (lev z x2)) hx hb hK hP 8 9 rfl (by omega) (by decide) (hR.2.2.1 x2 hx2).2.1 dX8_arrow_41 ?_
      refine m_ci (m_runV (As := [.int 1, .int (nI (lev z x2))]) (rest := []) ⟨hx, hb, hml, hown, htu⟩ (m_newType l G hDD o F z ix 1 (lev z x2) hR H.size) (cwV 2 htu gU_X8_newType rfl rfl rfl (by decide +kernel) ⟨Nat.le_of_ble_eq_true rfl, Nat.le_of_ble_eq_true rfl⟩) hP hK rfl hl.1 rfl (lv_room (Nat.le_of_ble_eq_true rfl)) dX8_arrow_42) hS (fun r_3 o_4 F_5 H locs hw_6 hP hS => ?_)
      dsimp only at hw_6
      rcases hw_6 with ⟨g1, g2, g3, g4⟩ | ⟨g1, g2, g3⟩
      · skip
        subst g2
        refine lv_istore_n (lv' := [(3, .int ((-9))), (0, .ref (mh G)), (1, .int (nI x1)), (2, .int (nI x2))]) hx hb dX8_arrow_45 rfl hl (by decide) rfl (fun ls hl => ?_)
        refine lv_iload_n hx hb dX8_arrow_46 rfl (lv_at hl 0 rfl) ?_
        refine lv_bipush (v := (-9)) hx hb dX8_arrow_47 (by decide) ?_
        refine lv_icmp_eq (tgt := 66) hx hb dX8_arrow_49 (by decide) (fun c_7 => ?_) (fun c_7 => absurd (by decide) c_7)
        refine lv_iload_n hx hb dX8_arrow_66 rfl (lv_at hl 0 rfl) ?_
        exact m_iret (v := (-9)) hx hb hr hK hP hS (by rw [(show mkA z x1 x2 = (stops z 1 (askn z), 0) from (if_neg (not_not_intro h0)).trans (if_pos g1))]; exact ⟨fun h => absurd h (stops_sto hR), g3, g4.mono (by decide)⟩) dX8_arrow_67 hlocks
      · skip
        subst g2
        obtain ⟨rfl, rfl⟩ := Prod.mk.inj g3
        refine lv_istore_n (lv' := [(3, .int (nI (nT z))), (0, .ref (mh G)), (1, .int (nI x1)), (2, .int (nI x2))]) hx hb dX8_arrow_45 rfl hl (by decide) rfl (fun ls hl => ?_)
        refine lv_iload_n hx hb dX8_arrow_46 rfl (lv_at hl 0 rfl) ?_
        refine lv_bipush (v := (-9)) hx hb dX8_arrow_47 (by decide) ?_
        refine lv_icmp_eq (tgt := 66) hx hb dX8_arrow_49 (by decide) (fun c_8 => absurd c_8 (nI_neg (by decide) (by omega))) (fun c_8 => ?_)
        refine lv_aload_n hx hb dX8_arrow_52 rfl (lv_at hl 1 rfl) ?_
        refine m_get (v := .ref (md G 10)) hx hb htu wu_in hown hK hP 10 (by decide) (htu _ U_80) rfl rfl dX8_arrow_53 ?_
        refine lv_iload_n hx hb dX8_arrow_56 rfl (lv_at hl 0 rfl) ?_
        refine lv_iload_n hx hb dX8_arrow_57 rfl (lv_at hl 2 rfl) ?_
        refine m_ast (j := nT z) (x := nI x1) hx hb hK hP hDD hS 9 10 rfl (by omega) (by decide) (mW_a10 _ _ _ _ _) dX8_arrow_58 (fun H locs hP hS => ?_)
        refine lv_aload_n hx hb dX8_arrow_59 rfl (lv_at hl 1 rfl) ?_
        refine m_get (v := .ref (md G 11)) hx hb htu wu_in hown hK hP 11 (by decide) (htu _ U_114) rfl rfl dX8_arrow_60 ?_
        refine lv_iload_n hx hb dX8_arrow_63 rfl (lv_at hl 0 rfl) ?_
        refine lv_iload_n hx hb dX8_arrow_64 rfl (lv_at hl 3 rfl) ?_
        refine m_ast (j := nT z) (x := nI x2) hx hb hK hP hDD hS 10 11 rfl (by omega) (by decide) (mW_a11 _ _ _ _ _) dX8_arrow_65 (fun H locs hP hS => ?_)
        refine lv_iload_n hx hb dX8_arrow_66 rfl (lv_at hl 0 rfl) ?_
        have k0 := hR.r_mkA (x1 := x1) (x2 := x2) (lv := lev z x2) h0 g1 hx1 hx2 (by omega) (o' := upd o 7 (nI (nT z + 1))) (F' := fput (fput (fput (fput F 8 (nT z) (nI 1)) 9 (nT z) (nI (lev z x2))) 10 (nT z) (nI x1)) 11 (nT z) (nI x2)) rfl ⟨rfl, rfl, rfl, rfl, rfl, rfl, rfl⟩ rfl rfl rfl rfl ⟨rfl, rfl, rfl, rfl, rfl, rfl, rfl, rfl⟩ ⟨rfl, rfl⟩
        exact m_iret (v := nI (nT z)) hx hb hr hK hP hS ⟨fun _ => ⟨by rw [k0.2.1], by rw [k0.2.1, k0.2.2.2]; omega⟩, k0.1, (Kq.F (Kq.F (Kq.F (Kq.F (Kq.o Kq.rf (by decide)) (by decide)) (by decide)) (by decide)) (by decide))⟩ dX8_arrow_67 hlocks
    · skip
      have nc_2 : ¬ lev z x1 ≤ lev z x2 := fun h9 => c_2 ((nI_leI (a := lev z x1) (b := lev z x2) (by omega) (by omega)).mpr h9)
      refine lv_aload_n hx hb dX8_arrow_27 rfl (lv_at hl 0 rfl) ?_
      refine m_get (v := .ref (md G 9)) hx hb htu wu_in hown hK hP 9 (by decide) (htu _ U_54) rfl rfl dX8_arrow_28 ?_
      refine lv_iload_n hx hb dX8_arrow_31 rfl (lv_at hl 1 rfl) ?_
      refine m_ald (j := x1) (v := nI (lev z x1)) hx hb hK hP 8 9 rfl (by omega) (by decide) (hR.2.2.1 x1 hx1).2.1 dX8_arrow_32 ?_
      refine lv_goto (tgt := 42) hx hb dX8_arrow_33 (by decide) ?_
      refine m_ci (m_runV (As := [.int 1, .int (nI (lev z x1))]) (rest := []) ⟨hx, hb, hml, hown, htu⟩ (m_newType l G hDD o F z ix 1 (lev z x1) hR H.size) (cwV 2 htu gU_X8_newType rfl rfl rfl (by decide +kernel) ⟨Nat.le_of_ble_eq_true rfl, Nat.le_of_ble_eq_true rfl⟩) hP hK rfl hl.1 rfl (lv_room (Nat.le_of_ble_eq_true rfl)) dX8_arrow_42) hS (fun r_9 o_10 F_11 H locs hw_12 hP hS => ?_)
      dsimp only at hw_12
      rcases hw_12 with ⟨g1, g2, g3, g4⟩ | ⟨g1, g2, g3⟩
      · skip
        subst g2
        refine lv_istore_n (lv' := [(3, .int ((-9))), (0, .ref (mh G)), (1, .int (nI x1)), (2, .int (nI x2))]) hx hb dX8_arrow_45 rfl hl (by decide) rfl (fun ls hl => ?_)
        refine lv_iload_n hx hb dX8_arrow_46 rfl (lv_at hl 0 rfl) ?_
        refine lv_bipush (v := (-9)) hx hb dX8_arrow_47 (by decide) ?_
        refine lv_icmp_eq (tgt := 66) hx hb dX8_arrow_49 (by decide) (fun c_13 => ?_) (fun c_13 => absurd (by decide) c_13)
        refine lv_iload_n hx hb dX8_arrow_66 rfl (lv_at hl 0 rfl) ?_
        exact m_iret (v := (-9)) hx hb hr hK hP hS (by rw [(show mkA z x1 x2 = (stops z 1 (askn z), 0) from (if_neg (not_not_intro h0)).trans (if_pos g1))]; exact ⟨fun h => absurd h (stops_sto hR), g3, g4.mono (by decide)⟩) dX8_arrow_67 hlocks
      · skip
        subst g2
        obtain ⟨rfl, rfl⟩ := Prod.mk.inj g3
        refine lv_istore_n (lv' := [(3, .int (nI (nT z))), (0, .ref (mh G)), (1, .int (nI x1)), (2, .int (nI x2))]) hx hb dX8_arrow_45 rfl hl (by decide) rfl (fun ls hl => ?_)
        refine lv_iload_n hx hb dX8_arrow_46 rfl (lv_at hl 0 rfl) ?_
        refine lv_bipush (v := (-9)) hx hb dX8_arrow_47 (by decide) ?_
        refine lv_icmp_eq (tgt := 66) hx hb dX8_arrow_49 (by decide) (fun c_14 => absurd c_14 (nI_neg (by decide) (by omega))) (fun c_14 => ?_)
        refine lv_aload_n hx hb dX8_arrow_52 rfl (lv_at hl 1 rfl) ?_
        refine m_get (v := .ref (md G 10)) hx hb htu wu_in hown hK hP 10 (by decide) (htu _ U_80) rfl rfl dX8_arrow_53 ?_
        refine lv_iload_n hx hb dX8_arrow_56 rfl (lv_at hl 0 rfl) ?_
        refine lv_iload_n hx hb dX8_arrow_57 rfl (lv_at hl 2 rfl) ?_
        refine m_ast (j := nT z) (x := nI x1) hx hb hK hP hDD hS 9 10 rfl (by omega) (by decide) (mW_a10 _ _ _ _ _) dX8_arrow_58 (fun H locs hP hS => ?_)
        refine lv_aload_n hx hb dX8_arrow_59 rfl (lv_at hl 1 rfl) ?_
        refine m_get (v := .ref (md G 11)) hx hb htu wu_in hown hK hP 11 (by decide) (htu _ U_114) rfl rfl dX8_arrow_60 ?_
        refine lv_iload_n hx hb dX8_arrow_63 rfl (lv_at hl 0 rfl) ?_
        refine lv_iload_n hx hb dX8_arrow_64 rfl (lv_at hl 3 rfl) ?_
        refine m_ast (j := nT z) (x := nI x2) hx hb hK hP hDD hS 10 11 rfl (by omega) (by decide) (mW_a11 _ _ _ _ _) dX8_arrow_65 (fun H locs hP hS => ?_)
        refine lv_iload_n hx hb dX8_arrow_66 rfl (lv_at hl 0 rfl) ?_
        have k0 := hR.r_mkA (x1 := x1) (x2 := x2) (lv := lev z x1) h0 g1 hx1 hx2 (by omega) (o' := upd o 7 (nI (nT z + 1))) (F' := fput (fput (fput (fput F 8 (nT z) (nI 1)) 9 (nT z) (nI (lev z x1))) 10 (nT z) (nI x1)) 11 (nT z) (nI x2)) rfl ⟨rfl, rfl, rfl, rfl, rfl, rfl, rfl⟩ rfl rfl rfl rfl ⟨rfl, rfl, rfl, rfl, rfl, rfl, rfl, rfl⟩ ⟨rfl, rfl⟩
        exact m_iret (v := nI (nT z)) hx hb hr hK hP hS ⟨fun _ => ⟨by rw [k0.2.1], by rw [k0.2.1, k0.2.2.2]; omega⟩, k0.1, (Kq.F (Kq.F (Kq.F (Kq.F (Kq.o Kq.rf (by decide)) (by decide)) (by decide)) (by decide)) (by decide))⟩ dX8_arrow_67 hlocks
  · skip
    refine lv_bipush (v := (-9)) hx hb dX8_arrow_7 (by decide) ?_
    exact m_iret (v := (-9)) hx hb hr hK hP hS (by rw [(show mkA z x1 x2 = (z, 0) from if_pos (fun h => c_1 (sc_0.mpr h)))]; exact ⟨fun h => absurd h (fun h => c_1 (sc_0.mpr h)), hR, Kq.rf⟩) dX8_arrow_9 hlocks

set_option maxHeartbeats 4000000 in
set_option maxRecDepth 100000 in
/-- row: an empty one, or none -/
theorem m_row (l : Launch) (G : mG) (hDD : mDD G) (o : Nat → Int32) (F : Nat → Nat → Int32) (z : aS) (ix : Nat → Nat → Nat) (hR : MR z ix o F) (sz : Nat) : Met l yX8_row (wU yX8_row cX8_row 2 (some .int)) { frames := 2, cells := 0, slots := 0, locals := 44 } (mPc G o F sz [.ref (mh G)]) (mQi G sz (fun r u => (sto z ≠ 0 ∧ r = -9 ∧ u = (o, F)) ∨ (sto z = 0 ∧ nT z = 602 ∧ r = -9 ∧ MR (stops z 1 (askn z)) ix u.1 u.2 ∧ Kq [24, 27] o F u) ∨ (sto z = 0 ∧ nT z ≠ 602 ∧ r = nI (nT z) ∧ u = (upd o 7 (nI (nT z + 1)), fput (fput (fput F 8 (nT z) (nI 2)) 9 (nT z) (nI 0)) 10 (nT z) (nI 0))))) 0 0 (mA G sz) := by
  refine Met.ofW (cc := cX8_row) (maxL := 2) (ret := (some .int)) (by decide) rfl ?_
  intro p e s m args below meth c s₁ B hml hv
  obtain ⟨rfl, hsz, hP, hK⟩ := hv
  have hx := B.exec
  have hb := B.bytes
  have hr := B.returns
  have htu : ∀ w ∈ WU, w.before _ s = true := fun w h => atoms_spec (ws := (wU yX8_row cX8_row 2 (some .int))) B.pre w (List.mem_cons_of_mem _ h)
  have hown : s.vm.findClass RX8 = some m.cls := findClass_of_methodNamed B.named
  have hlocks := B.notSynchronized
  subst hsz
  have hS : va_S (mA G s.heap.size) s.heap s.heap [] := va_S.rf
  have hl := lv_entry ([.ref (mh G)]) (n := 2) (Nat.le_of_ble_eq_true rfl)
  rw [lg_entry_eq]
  generalize (lg_sl ([.ref (mh G)]) ++ List.replicate (2 - (lg_sl ([.ref (mh G)])).length) Slot.unset).toArray = ls at hl ⊢
  have hl : lv_has ls 2 [(0, .ref (mh G))] := hl
  obtain ⟨H, hHe⟩ : ∃ H : Heap, H = s.heap := ⟨_, rfl⟩
  rw [← hHe] at hP
  have hS : va_S (mA G s.heap.size) s.heap H [] := by rw [hHe]; exact va_S.rf
  refine W.heq hHe ?_
  obtain ⟨b1, b2, b3, b4, b5, b6, b7, b8⟩ := hR.2.1
  refine lv_aload_n hx hb dX8_row_0 rfl (lv_at hl 0 rfl) ?_
  refine m_get (v := .int (sc (sto z))) hx hb htu wu_in hown hK hP 27 (by decide) (htu _ U_45) rfl (m_v hR.1.2.2.2.2.1) dX8_row_1 ?_
  refine lv_if_eq (tgt := 12) hx hb dX8_row_4 (by decide) (fun c_1 => ?_) (fun c_1 => ?_)
  · skip
    refine lv_aload_n hx hb dX8_row_12 rfl (lv_at hl 0 rfl) ?_
    refine lv_iconst (v := 2) hx hb dX8_row_13 (by decide) ?_
    refine lv_iconst (v := 0) hx hb dX8_row_14 (by decide) ?_
    refine m_ci (m_runV (As := [.int 2, .int 0]) (rest := []) ⟨hx, hb, hml, hown, htu⟩ (m_newType l G hDD o F z ix 2 0 hR H.size) (cwV 2 htu gU_X8_newType rfl rfl rfl (by decide +kernel) ⟨Nat.le_of_ble_eq_true rfl, Nat.le_of_ble_eq_true rfl⟩) hP hK rfl hl.1 rfl (lv_room (Nat.le_of_ble_eq_true rfl)) dX8_row_15) hS (fun r_2 o_3 F_4 H locs hw_5 hP hS => ?_)
    dsimp only at hw_5
    rcases hw_5 with ⟨g1, g2, g3, g4⟩ | ⟨g1, g2, g3⟩
    · skip
      subst g2
      refine lv_istore_n (lv' := [(1, .int ((-9))), (0, .ref (mh G))]) hx hb dX8_row_18 rfl hl (by decide) rfl (fun ls hl => ?_)
      refine lv_iload_n hx hb dX8_row_19 rfl (lv_at hl 0 rfl) ?_
      refine lv_bipush (v := (-9)) hx hb dX8_row_20 (by decide) ?_
      refine lv_icmp_eq (tgt := 32) hx hb dX8_row_22 (by decide) (fun c_6 => ?_) (fun c_6 => absurd (by decide) c_6)
      refine lv_iload_n hx hb dX8_row_32 rfl (lv_at hl 0 rfl) ?_
      exact m_iret (v := (-9)) hx hb hr hK hP hS (Or.inr (Or.inl ⟨sc_0.mp c_1, g1, rfl, g3, g4⟩)) dX8_row_33 hlocks
    · skip
      subst g2
      obtain ⟨rfl, rfl⟩ := Prod.mk.inj g3
      refine lv_istore_n (lv' := [(1, .int (nI (nT z))), (0, .ref (mh G))]) hx hb dX8_row_18 rfl hl (by decide) rfl (fun ls hl => ?_)
      refine lv_iload_n hx hb dX8_row_19 rfl (lv_at hl 0 rfl) ?_
      refine lv_bipush (v := (-9)) hx hb dX8_row_20 (by decide) ?_
      refine lv_icmp_eq (tgt := 32) hx hb dX8_row_22 (by decide) (fun c_7 => absurd c_7 (nI_neg (by decide) (by omega))) (fun c_7 => ?_)
      refine lv_aload_n hx hb dX8_row_25 rfl (lv_at hl 1 rfl) ?_
      refine m_get (v := .ref (md G 10)) hx hb htu wu_in hown hK hP 10 (by decide) (htu _ U_80) rfl rfl dX8_row_26 ?_
      refine lv_iload_n hx hb dX8_row_29 rfl (lv_at hl 0 rfl) ?_
      refine lv_iconst (v := 0) hx hb dX8_row_30 (by decide) ?_
      refine m_ast (j := nT z) (x := 0) hx hb hK hP hDD hS 9 10 rfl (by omega) (by decide) (mW_a10 _ _ _ _ _) dX8_row_31 (fun H locs hP hS => ?_)
      refine lv_iload_n hx hb dX8_row_32 rfl (lv_at hl 0 rfl) ?_
      exact m_iret (v := nI (nT z)) hx hb hr hK hP hS (Or.inr (Or.inr ⟨sc_0.mp c_1, g1, rfl, rfl⟩)) dX8_row_33 hlocks
  · skip
    refine lv_bipush (v := (-9)) hx hb dX8_row_7 (by decide) ?_
    refine lv_goto (tgt := 18) hx hb dX8_row_9 (by decide) ?_
    refine lv_istore_n (lv' := [(1, .int ((-9))), (0, .ref (mh G))]) hx hb dX8_row_18 rfl hl (by decide) rfl (fun ls hl => ?_)
    refine lv_iload_n hx hb dX8_row_19 rfl (lv_at hl 0 rfl) ?_
    refine lv_bipush (v := (-9)) hx hb dX8_row_20 (by decide) ?_
    refine lv_icmp_eq (tgt := 32) hx hb dX8_row_22 (by decide) (fun c_8 => ?_) (fun c_8 => absurd (by decide) c_8)
    refine lv_iload_n hx hb dX8_row_32 rfl (lv_at hl 0 rfl) ?_
    exact m_iret (v := (-9)) hx hb hr hK hP hS (Or.inl ⟨(fun h => c_1 (sc_0.mpr h)), rfl, rfl⟩) dX8_row_33 hlocks

set_option maxHeartbeats 4000000 in
set_option maxRecDepth 100000 in
/-- addTo -/
theorem m_addTo (l : Launch) (G : mG) (hDD : mDD G) (o : Nat → Int32) (F : Nat → Nat → Int32) (t : Nat) (k : Nat) (x : Nat) (la : Int32) (a1 : Nat) (a2 : Nat) (ht : t < 602) (hk : k < 6) (hx : x < 602) (h1 : F 10 t = nI k) (h2 : F 9 x = nI a2) (h3 : F 9 t = nI a1) (h4 : a1 ≤ 100) (h5 : a2 ≤ 100) (sz : Nat) : Met l yX8_addTo (wU yX8_addTo cX8_addTo 4 none) { frames := 0, cells := 0, slots := 0, locals := 0 } (mPc G o F sz [.ref (mh G), .int (nI t), .int la, .int (nI x)]) (mQv G sz (fun u => u = (o, fput (fput (fput (fput F 12 (6 * t + k) la) 13 (6 * t + k) (nI x)) 10 t (nI (k + 1))) 9 t (nI (max a1 a2))))) 0 0 (mA G sz) := by
  refine Met.ofW (cc := cX8_addTo) (maxL := 4) (ret := none) (by decide) rfl ?_
  intro p e s m args below meth c s₁ B hml hv
  obtain ⟨rfl, hsz, hP, hK⟩ := hv
  have hx := B.exec
  have hb := B.bytes
  have hr := B.returns
  have htu : ∀ w ∈ WU, w.before _ s = true := fun w h => atoms_spec (ws := (wU yX8_addTo cX8_addTo 4 none)) B.pre w (List.mem_cons_of_mem _ h)
  have hown : s.vm.findClass RX8 = some m.cls := findClass_of_methodNamed B.named
  have hlocks := B.notSynchronized
  subst hsz
  have hS : va_S (mA G s.heap.size) s.heap s.heap [] := va_S.rf
  have hl := lv_entry ([.ref (mh G), .int (nI t), .int la, .int (nI x)]) (n := 4) (Nat.le_of_ble_eq_true rfl)
  rw [lg_entry_eq]
  generalize (lg_sl ([.ref (mh G), .int (nI t), .int la, .int (nI x)]) ++ List.replicate (4 - (lg_sl ([.ref (mh G), .int (nI t), .int la, .int (nI x)])).length) Slot.unset).toArray = ls at hl ⊢
  have hl : lv_has ls 4 [(0, .ref (mh G)), (1, .int (nI t)), (2, .int la), (3, .int (nI x))] := hl
  obtain ⟨H, hHe⟩ : ∃ H : Heap, H = s.heap := ⟨_, rfl⟩
  rw [← hHe] at hP
  have hS : va_S (mA G s.heap.size) s.heap H [] := by rw [hHe]; exact va_S.rf
  refine W.heq hHe ?_
  refine lv_aload_n hx hb dX8_addTo_0 rfl (lv_at hl 0 rfl) ?_
  refine m_get (v := .ref (md G 12)) hx hb htu wu_in hown hK hP 12 (by decide) (htu _ U_89) rfl rfl dX8_addTo_1 ?_
  refine lv_bipush (v := 6) hx hb dX8_addTo_4 (by decide) ?_
  refine lv_iload_n hx hb dX8_addTo_6 rfl (lv_at hl 1 rfl) ?_
  refine lv_imul hx hb dX8_addTo_7 ?_
  refine m_top (y := nI (6 * t)) (pk_mul 6 t) ?_
  refine lv_aload_n hx hb dX8_addTo_8 rfl (lv_at hl 0 rfl) ?_
  refine m_get (v := .ref (md G 10)) hx hb htu wu_in hown hK hP 10 (by decide) (htu _ U_80) rfl rfl dX8_addTo_9 ?_
  refine lv_iload_n hx hb dX8_addTo_12 rfl (lv_at hl 1 rfl) ?_
  refine m_ald (j := t) (v := nI k) hx hb hK hP 9 10 rfl (by omega) (by decide) h1 dX8_addTo_13 ?_
  refine lv_iadd hx hb dX8_addTo_14 ?_
  refine m_top (y := nI (6 * t + k)) (nI_add (6 * t) k) ?_
  refine lv_iload_n hx hb dX8_addTo_15 rfl (lv_at hl 2 rfl) ?_
  refine m_ast (j := 6 * t + k) (x := la) hx hb hK hP hDD hS 11 12 rfl (by omega) (by decide) (mW_a12 _ _ _ _ _) dX8_addTo_16 (fun H locs hP hS => ?_)
  refine lv_aload_n hx hb dX8_addTo_17 rfl (lv_at hl 0 rfl) ?_
  refine m_get (v := .ref (md G 13)) hx hb htu wu_in hown hK hP 13 (by decide) (htu _ U_90) rfl rfl dX8_addTo_18 ?_
  refine lv_bipush (v := 6) hx hb dX8_addTo_21 (by decide) ?_
  refine lv_iload_n hx hb dX8_addTo_23 rfl (lv_at hl 1 rfl) ?_
  refine lv_imul hx hb dX8_addTo_24 ?_
  refine m_top (y := nI (6 * t)) (pk_mul 6 t) ?_
  refine lv_aload_n hx hb dX8_addTo_25 rfl (lv_at hl 0 rfl) ?_
  refine m_get (v := .ref (md G 10)) hx hb htu wu_in hown hK hP 10 (by decide) (htu _ U_80) rfl rfl dX8_addTo_26 ?_
  refine lv_iload_n hx hb dX8_addTo_29 rfl (lv_at hl 1 rfl) ?_
  refine m_ald (j := t) (v := nI k) hx hb hK hP 9 10 rfl (by omega) (by decide) h1 dX8_addTo_30 ?_
  refine lv_iadd hx hb dX8_addTo_31 ?_
  refine m_top (y := nI (6 * t + k)) (nI_add (6 * t) k) ?_
  refine lv_iload_n hx hb dX8_addTo_32 rfl (lv_at hl 3 rfl) ?_
  refine m_ast (j := 6 * t + k) (x := nI x) hx hb hK hP hDD hS 12 13 rfl (by omega) (by decide) (mW_a13 _ _ _ _ _) dX8_addTo_33 (fun H locs hP hS => ?_)
  refine lv_aload_n hx hb dX8_addTo_34 rfl (lv_at hl 0 rfl) ?_
  refine m_get (v := .ref (md G 10)) hx hb htu wu_in hown hK hP 10 (by decide) (htu _ U_80) rfl rfl dX8_addTo_35 ?_
  refine lv_iload_n hx hb dX8_addTo_38 rfl (lv_at hl 1 rfl) ?_
  refine lv_dup2_11 hx hb dX8_addTo_39 rfl rfl ?_
  refine m_ald (j := t) (v := nI k) hx hb hK hP 9 10 rfl (by omega) (by decide) h1 dX8_addTo_40 ?_
  refine lv_iconst (v := 1) hx hb dX8_addTo_41 (by decide) ?_
  refine lv_iadd hx hb dX8_addTo_42 ?_
  refine m_top (y := nI (k + 1)) (nI_add k 1) ?_
  refine m_ast (j := t) (x := nI (k + 1)) hx hb hK hP hDD hS 9 10 rfl (by omega) (by decide) (mW_a10 _ _ _ _ _) dX8_addTo_43 (fun H locs hP hS => ?_)
  refine lv_aload_n hx hb dX8_addTo_44 rfl (lv_at hl 0 rfl) ?_
  refine m_get (v := .ref (md G 9)) hx hb htu wu_in hown hK hP 9 (by decide) (htu _ U_54) rfl rfl dX8_addTo_45 ?_
  refine lv_iload_n hx hb dX8_addTo_48 rfl (lv_at hl 1 rfl) ?_
  refine lv_aload_n hx hb dX8_addTo_49 rfl (lv_at hl 0 rfl) ?_
  refine m_get (v := .ref (md G 9)) hx hb htu wu_in hown hK hP 9 (by decide) (htu _ U_54) rfl rfl dX8_addTo_50 ?_
  refine lv_iload_n hx hb dX8_addTo_53 rfl (lv_at hl 3 rfl) ?_
  refine m_ald (j := x) (v := nI a2) hx hb hK hP 8 9 rfl (by omega) (by decide) h2 dX8_addTo_54 ?_
  refine lv_aload_n hx hb dX8_addTo_55 rfl (lv_at hl 0 rfl) ?_
  refine m_get (v := .ref (md G 9)) hx hb htu wu_in hown hK hP 9 (by decide) (htu _ U_54) rfl rfl dX8_addTo_56 ?_
  refine lv_iload_n hx hb dX8_addTo_59 rfl (lv_at hl 1 rfl) ?_
  refine m_ald (j := t) (v := nI a1) hx hb hK hP 8 9 rfl (by omega) (by decide) h3 dX8_addTo_60 ?_
  refine lv_icmp_le (tgt := 73) hx hb dX8_addTo_61 (by decide) (fun c_1 => ?_) (fun c_1 => ?_)
  · skip
    have nc_1 : a2 ≤ a1 := (nI_leI (a := a2) (b := a1) (by omega) (by omega)).mp c_1
    refine lv_aload_n hx hb dX8_addTo_73 rfl (lv_at hl 0 rfl) ?_
    refine m_get (v := .ref (md G 9)) hx hb htu wu_in hown hK hP 9 (by decide) (htu _ U_54) rfl rfl dX8_addTo_74 ?_
    refine lv_iload_n hx hb dX8_addTo_77 rfl (lv_at hl 1 rfl) ?_
    refine m_ald (j := t) (v := nI a1) hx hb hK hP 8 9 rfl (by omega) (by decide) h3 dX8_addTo_78 ?_
    refine m_ast (j := t) (x := nI a1) hx hb hK hP hDD hS 8 9 rfl (by omega) (by decide) (mW_a9 _ _ _ _ _) dX8_addTo_79 (fun H locs hP hS => ?_)
    exact m_vret hx hb hr hK hP hS (by show ((_, _) : mS) = _; rw [show max a1 a2 = a1 by omega]) dX8_addTo_80 hlocks
  · skip
    have nc_1 : ¬ a2 ≤ a1 := fun h9 => c_1 ((nI_leI (a := a2) (b := a1) (by omega) (by omega)).mpr h9)
    refine lv_aload_n hx hb dX8_addTo_64 rfl (lv_at hl 0 rfl) ?_
    refine m_get (v := .ref (md G 9)) hx hb htu wu_in hown hK hP 9 (by decide) (htu _ U_54) rfl rfl dX8_addTo_65 ?_
    refine lv_iload_n hx hb dX8_addTo_68 rfl (lv_at hl 3 rfl) ?_
    refine m_ald (j := x) (v := nI a2) hx hb hK hP 8 9 rfl (by omega) (by decide) h2 dX8_addTo_69 ?_
    refine lv_goto (tgt := 79) hx hb dX8_addTo_70 (by decide) ?_
    refine m_ast (j := t) (x := nI a2) hx hb hK hP hDD hS 8 9 rfl (by omega) (by decide) (mW_a9 _ _ _ _ _) dX8_addTo_79 (fun H locs hP hS => ?_)
    exact m_vret hx hb hr hK hP hS (by show ((_, _) : mS) = _; rw [show max a1 a2 = a2 by omega]) dX8_addTo_80 hlocks

set_option maxHeartbeats 4000000 in
set_option maxRecDepth 100000 in
/-- bind: one more behind a row -/
theorem m_bind (l : Launch) (G : mG) (hDD : mDD G) (o : Nat → Int32) (F : Nat → Nat → Int32) (z : aS) (ix : Nat → Nat → Nat) (t : Nat) (sd : Nat) (x : Nat) (hR : MR z ix o F) (ht : t < nT z) (h3 : srt z t = 3) (hsd : sd < 2) (hx0 : x < nT z) (hbd : bnd z < 200000) (sz : Nat) : Met l yX8_bind (wU yX8_bind cX8_bind 5 none) { frames := 0, cells := 0, slots := 0, locals := 0 } (mPc G o F sz [.ref (mh G), .int (nI t), .int (nI sd), .int (nI x)]) (mQv G sz (fun u => (∃ ix', MR (bind z t sd x) ix' u.1 u.2 ∧ Px z ix ix') ∧ Kq [16, 17, 18, 19, 20, 21] o F u)) 0 0 (mA G sz) := by
  refine Met.ofW (cc := cX8_bind) (maxL := 5) (ret := none) (by decide) rfl ?_
  intro p e s m args below meth c s₁ B hml hv
  obtain ⟨rfl, hsz, hP, hK⟩ := hv
  have hx := B.exec
  have hb := B.bytes
  have hr := B.returns
  have htu : ∀ w ∈ WU, w.before _ s = true := fun w h => atoms_spec (ws := (wU yX8_bind cX8_bind 5 none)) B.pre w (List.mem_cons_of_mem _ h)
  have hown : s.vm.findClass RX8 = some m.cls := findClass_of_methodNamed B.named
  have hlocks := B.notSynchronized
  subst hsz
  have hS : va_S (mA G s.heap.size) s.heap s.heap [] := va_S.rf
  have hl := lv_entry ([.ref (mh G), .int (nI t), .int (nI sd), .int (nI x)]) (n := 5) (Nat.le_of_ble_eq_true rfl)
  rw [lg_entry_eq]
  generalize (lg_sl ([.ref (mh G), .int (nI t), .int (nI sd), .int (nI x)]) ++ List.replicate (5 - (lg_sl ([.ref (mh G), .int (nI t), .int (nI sd), .int (nI x)])).length) Slot.unset).toArray = ls at hl ⊢
  have hl : lv_has ls 5 [(0, .ref (mh G)), (1, .int (nI t)), (2, .int (nI sd)), (3, .int (nI x))] := hl
  obtain ⟨H, hHe⟩ : ∃ H : Heap, H = s.heap := ⟨_, rfl⟩
  rw [← hHe] at hP
  have hS : va_S (mA G s.heap.size) s.heap H [] := by rw [hHe]; exact va_S.rf
  refine W.heq hHe ?_
  obtain ⟨b1, b2, b3, b4, b5, b6, b7, b8⟩ := hR.2.1
  obtain ⟨v1, v2, v3⟩ := hR.2.2.2.2.2.1.1 t ht h3
  have hw := hR.2.2.2.2.2.2.1 (one z t) v2 sd hsd
  rw [v3] at hw
  obtain ⟨w1, w2, w3, w4, w5⟩ := hw
  rcases Nat.eq_zero_or_pos (row z sd t).length with hL | hL
  · skip
    refine lv_iconst (v := 2) hx hb dX8_bind_0 (by decide) ?_
    refine lv_aload_n hx hb dX8_bind_1 rfl (lv_at hl 0 rfl) ?_
    refine m_get (v := .ref (md G 10)) hx hb htu wu_in hown hK hP 10 (by decide) (htu _ U_80) rfl rfl dX8_bind_2 ?_
    refine lv_iload_n hx hb dX8_bind_5 rfl (lv_at hl 1 rfl) ?_
    refine m_ald (j := t) (v := nI (one z t)) hx hb hK hP 9 10 rfl (by omega) (by decide) v1 dX8_bind_6 ?_
    refine lv_imul hx hb dX8_bind_7 ?_
    refine m_top (y := nI (2 * (one z t))) (pk_mul 2 (one z t)) ?_
    refine lv_iload_n hx hb dX8_bind_8 rfl (lv_at hl 2 rfl) ?_
    refine lv_iadd hx hb dX8_bind_9 ?_
    refine m_top (y := nI (2 * (one z t) + sd)) (nI_add (2 * (one z t)) sd) ?_
    refine lv_istore (lv' := [(4, .int (nI (2 * (one z t) + sd))), (0, .ref (mh G)), (1, .int (nI t)), (2, .int (nI sd)), (3, .int (nI x))]) hx hb dX8_bind_10 hl (by decide) rfl (fun ls hl => ?_)
    refine lv_aload_n hx hb dX8_bind_12 rfl (lv_at hl 1 rfl) ?_
    refine m_get (v := .ref (md G 17)) hx hb htu wu_in hown hK hP 17 (by decide) (htu _ U_118) rfl rfl dX8_bind_13 ?_
    refine lv_aload_n hx hb dX8_bind_16 rfl (lv_at hl 1 rfl) ?_
    refine m_get (v := .int (nI (bnd z))) hx hb htu wu_in hown hK hP 16 (by decide) (htu _ U_41) rfl (m_v hR.1.2.2.1) dX8_bind_17 ?_
    refine lv_iload_n hx hb dX8_bind_20 rfl (lv_at hl 4 rfl) ?_
    refine m_ast (j := bnd z) (x := nI x) hx hb hK hP hDD hS 14 17 rfl (by omega) (by decide) (mW_a17 _ _ _ _ _) dX8_bind_21 (fun H locs hP hS => ?_)
    refine lv_aload_n hx hb dX8_bind_22 rfl (lv_at hl 1 rfl) ?_
    refine m_get (v := .ref (md G 18)) hx hb htu wu_in hown hK hP 18 (by decide) (htu _ U_119) rfl rfl dX8_bind_23 ?_
    refine lv_aload_n hx hb dX8_bind_26 rfl (lv_at hl 1 rfl) ?_
    refine m_get (v := .int (nI (bnd z))) hx hb htu wu_in hown hK hP 16 (by decide) (htu _ U_41) rfl (m_v hR.1.2.2.1) dX8_bind_27 ?_
    refine lv_bipush (v := (-9)) hx hb dX8_bind_30 (by decide) ?_
    refine m_ast (j := bnd z) (x := (-9)) hx hb hK hP hDD hS 15 18 rfl (by omega) (by decide) (mW_a18 _ _ _ _ _) dX8_bind_32 (fun H locs hP hS => ?_)
    refine lv_aload_n hx hb dX8_bind_33 rfl (lv_at hl 1 rfl) ?_
    refine m_get (v := .ref (md G 19)) hx hb htu wu_in hown hK hP 19 (by decide) (htu _ U_117) rfl rfl dX8_bind_34 ?_
    refine lv_iload hx hb dX8_bind_37 (lv_at hl 0 rfl) ?_
    refine m_ald (j := 2 * (one z t) + sd) (v := (-9)) hx hb hK hP 16 19 rfl (by omega) (by decide) (w2 hL) dX8_bind_39 ?_
    refine lv_bipush (v := (-9)) hx hb dX8_bind_40 (by decide) ?_
    refine lv_icmp_ne (tgt := 59) hx hb dX8_bind_42 (by decide) (fun c_1 => absurd (by decide) c_1) (fun c_1 => ?_)
    refine lv_aload_n hx hb dX8_bind_45 rfl (lv_at hl 1 rfl) ?_
    refine m_get (v := .ref (md G 19)) hx hb htu wu_in hown hK hP 19 (by decide) (htu _ U_117) rfl rfl dX8_bind_46 ?_
    refine lv_iload hx hb dX8_bind_49 (lv_at hl 0 rfl) ?_
    refine lv_aload_n hx hb dX8_bind_51 rfl (lv_at hl 1 rfl) ?_
    refine m_get (v := .int (nI (bnd z))) hx hb htu wu_in hown hK hP 16 (by decide) (htu _ U_41) rfl (m_v hR.1.2.2.1) dX8_bind_52 ?_
    refine m_ast (j := 2 * (one z t) + sd) (x := nI (bnd z)) hx hb hK hP hDD hS 16 19 rfl (by omega) (by decide) (mW_a19 _ _ _ _ _) dX8_bind_55 (fun H locs hP hS => ?_)
    refine lv_goto (tgt := 75) hx hb dX8_bind_56 (by decide) ?_
    refine lv_aload_n hx hb dX8_bind_75 rfl (lv_at hl 1 rfl) ?_
    refine m_get (v := .ref (md G 20)) hx hb htu wu_in hown hK hP 20 (by decide) (htu _ U_132) rfl rfl dX8_bind_76 ?_
    refine lv_iload hx hb dX8_bind_79 (lv_at hl 0 rfl) ?_
    refine lv_aload_n hx hb dX8_bind_81 rfl (lv_at hl 1 rfl) ?_
    refine m_get (v := .int (nI (bnd z))) hx hb htu wu_in hown hK hP 16 (by decide) (htu _ U_41) rfl (m_v hR.1.2.2.1) dX8_bind_82 ?_
    refine m_ast (j := 2 * (one z t) + sd) (x := nI (bnd z)) hx hb hK hP hDD hS 17 20 rfl (by omega) (by decide) (mW_a20 _ _ _ _ _) dX8_bind_85 (fun H locs hP hS => ?_)
    refine lv_aload_n hx hb dX8_bind_86 rfl (lv_at hl 1 rfl) ?_
    refine m_get (v := .ref (md G 21)) hx hb htu wu_in hown hK hP 21 (by decide) (htu _ U_116) rfl rfl dX8_bind_87 ?_
    refine lv_iload hx hb dX8_bind_90 (lv_at hl 0 rfl) ?_
    refine lv_dup2_11 hx hb dX8_bind_92 rfl rfl ?_
    refine m_ald (j := 2 * (one z t) + sd) (v := nI ((row z sd t).length)) hx hb hK hP 18 21 rfl (by omega) (by decide) w1 dX8_bind_93 ?_
    refine lv_iconst (v := 1) hx hb dX8_bind_94 (by decide) ?_
    refine lv_iadd hx hb dX8_bind_95 ?_
    refine m_top (y := nI ((row z sd t).length + 1)) (nI_add ((row z sd t).length) 1) ?_
    refine m_ast (j := 2 * (one z t) + sd) (x := nI ((row z sd t).length + 1)) hx hb hK hP hDD hS 18 21 rfl (by omega) (by decide) (mW_a21 _ _ _ _ _) dX8_bind_96 (fun H locs hP hS => ?_)
    refine lv_aload_n hx hb dX8_bind_97 rfl (lv_at hl 1 rfl) ?_
    refine lv_dup hx hb dX8_bind_98 rfl ?_
    refine m_get (v := .int (nI (bnd z))) hx hb htu wu_in hown hK hP 16 (by decide) (htu _ U_41) rfl (m_v hR.1.2.2.1) dX8_bind_99 ?_
    refine lv_iconst (v := 1) hx hb dX8_bind_102 (by decide) ?_
    refine lv_iadd hx hb dX8_bind_103 ?_
    refine m_top (y := nI (bnd z + 1)) (nI_add (bnd z) 1) ?_
    refine m_put (ty := .int) (x := nI (bnd z + 1)) hx hb htu wu_in hown hK hP hDD hS 16 (by decide) (htu _ U_41) rfl rfl (by decide +kernel) rfl rfl (mO_s16 _ _ _) dX8_bind_104 (fun H locs hP hS => ?_)
    have k0 := hR.r_bind (J := fun a i => if a = 2 * one z t + sd ∧ i = (row z sd t).length then bnd z else ix a i) (L := (row z sd t).length) (q := 2 * one z t + sd) ht h3 hsd hx0 hbd rfl rfl (fun _ _ => rfl) (o' := upd o 16 (nI (bnd z + 1))) (F' := fput (fput (fput (fput (fput F 17 (bnd z) (nI x)) 18 (bnd z) ((-9))) 19 (2 * (one z t) + sd) (nI (bnd z))) 20 (2 * (one z t) + sd) (nI (bnd z))) 21 (2 * (one z t) + sd) (nI ((row z sd t).length + 1))) rfl ⟨rfl, rfl, rfl, rfl, rfl, rfl, rfl⟩ rfl rfl rfl (fun _ => ⟨rfl, rfl⟩) (fun h => absurd h (by omega)) ⟨rfl, rfl, rfl, rfl, rfl, rfl, rfl, rfl, rfl⟩
    exact m_vret hx hb hr hK hP hS ⟨⟨_, k0⟩, (Kq.F (Kq.F (Kq.F (Kq.F (Kq.F (Kq.o Kq.rf (by decide)) (by decide)) (by decide)) (by decide)) (by decide)) (by decide))⟩ dX8_bind_107 hlocks
  · skip
    have x1 := (w5 0 hL).1
    have x2 := (w5 ((row z sd t).length - 1) (by omega)).1
    refine lv_iconst (v := 2) hx hb dX8_bind_0 (by decide) ?_
    refine lv_aload_n hx hb dX8_bind_1 rfl (lv_at hl 0 rfl) ?_
    refine m_get (v := .ref (md G 10)) hx hb htu wu_in hown hK hP 10 (by decide) (htu _ U_80) rfl rfl dX8_bind_2 ?_
    refine lv_iload_n hx hb dX8_bind_5 rfl (lv_at hl 1 rfl) ?_
    refine m_ald (j := t) (v := nI (one z t)) hx hb hK hP 9 10 rfl (by omega) (by decide) v1 dX8_bind_6 ?_
    refine lv_imul hx hb dX8_bind_7 ?_
    refine m_top (y := nI (2 * (one z t))) (pk_mul 2 (one z t)) ?_
    refine lv_iload_n hx hb dX8_bind_8 rfl (lv_at hl 2 rfl) ?_
    refine lv_iadd hx hb dX8_bind_9 ?_
    refine m_top (y := nI (2 * (one z t) + sd)) (nI_add (2 * (one z t)) sd) ?_
    refine lv_istore (lv' := [(4, .int (nI (2 * (one z t) + sd))), (0, .ref (mh G)), (1, .int (nI t)), (2, .int (nI sd)), (3, .int (nI x))]) hx hb dX8_bind_10 hl (by decide) rfl (fun ls hl => ?_)
    refine lv_aload_n hx hb dX8_bind_12 rfl (lv_at hl 1 rfl) ?_
    refine m_get (v := .ref (md G 17)) hx hb htu wu_in hown hK hP 17 (by decide) (htu _ U_118) rfl rfl dX8_bind_13 ?_
    refine lv_aload_n hx hb dX8_bind_16 rfl (lv_at hl 1 rfl) ?_
    refine m_get (v := .int (nI (bnd z))) hx hb htu wu_in hown hK hP 16 (by decide) (htu _ U_41) rfl (m_v hR.1.2.2.1) dX8_bind_17 ?_
    refine lv_iload_n hx hb dX8_bind_20 rfl (lv_at hl 4 rfl) ?_
    refine m_ast (j := bnd z) (x := nI x) hx hb hK hP hDD hS 14 17 rfl (by omega) (by decide) (mW_a17 _ _ _ _ _) dX8_bind_21 (fun H locs hP hS => ?_)
    refine lv_aload_n hx hb dX8_bind_22 rfl (lv_at hl 1 rfl) ?_
    refine m_get (v := .ref (md G 18)) hx hb htu wu_in hown hK hP 18 (by decide) (htu _ U_119) rfl rfl dX8_bind_23 ?_
    refine lv_aload_n hx hb dX8_bind_26 rfl (lv_at hl 1 rfl) ?_
    refine m_get (v := .int (nI (bnd z))) hx hb htu wu_in hown hK hP 16 (by decide) (htu _ U_41) rfl (m_v hR.1.2.2.1) dX8_bind_27 ?_
    refine lv_bipush (v := (-9)) hx hb dX8_bind_30 (by decide) ?_
    refine m_ast (j := bnd z) (x := (-9)) hx hb hK hP hDD hS 15 18 rfl (by omega) (by decide) (mW_a18 _ _ _ _ _) dX8_bind_32 (fun H locs hP hS => ?_)
    refine lv_aload_n hx hb dX8_bind_33 rfl (lv_at hl 1 rfl) ?_
    refine m_get (v := .ref (md G 19)) hx hb htu wu_in hown hK hP 19 (by decide) (htu _ U_117) rfl rfl dX8_bind_34 ?_
    refine lv_iload hx hb dX8_bind_37 (lv_at hl 0 rfl) ?_
    refine m_ald (j := 2 * (one z t) + sd) (v := nI (ix (2 * one z t + sd) 0)) hx hb hK hP 16 19 rfl (by omega) (by decide) (w3 hL).1 dX8_bind_39 ?_
    refine lv_bipush (v := (-9)) hx hb dX8_bind_40 (by decide) ?_
    refine lv_icmp_ne (tgt := 59) hx hb dX8_bind_42 (by decide) (fun c_2 => ?_) (fun c_2 => absurd c_2 (nI_neg (by decide) (by omega)))
    refine lv_aload_n hx hb dX8_bind_59 rfl (lv_at hl 1 rfl) ?_
    refine m_get (v := .ref (md G 18)) hx hb htu wu_in hown hK hP 18 (by decide) (htu _ U_119) rfl rfl dX8_bind_60 ?_
    refine lv_aload_n hx hb dX8_bind_63 rfl (lv_at hl 1 rfl) ?_
    refine m_get (v := .ref (md G 20)) hx hb htu wu_in hown hK hP 20 (by decide) (htu _ U_132) rfl rfl dX8_bind_64 ?_
    refine lv_iload hx hb dX8_bind_67 (lv_at hl 0 rfl) ?_
    refine m_ald (j := 2 * (one z t) + sd) (v := nI (ix (2 * one z t + sd) ((row z sd t).length - 1))) hx hb hK hP 17 20 rfl (by omega) (by decide) (w3 hL).2 dX8_bind_69 ?_
    refine lv_aload_n hx hb dX8_bind_70 rfl (lv_at hl 1 rfl) ?_
    refine m_get (v := .int (nI (bnd z))) hx hb htu wu_in hown hK hP 16 (by decide) (htu _ U_41) rfl (m_v hR.1.2.2.1) dX8_bind_71 ?_
    refine m_ast (j := ix (2 * one z t + sd) ((row z sd t).length - 1)) (x := nI (bnd z)) hx hb hK hP hDD hS 15 18 rfl (by omega) (by decide) (mW_a18 _ _ _ _ _) dX8_bind_74 (fun H locs hP hS => ?_)
    refine lv_aload_n hx hb dX8_bind_75 rfl (lv_at hl 1 rfl) ?_
    refine m_get (v := .ref (md G 20)) hx hb htu wu_in hown hK hP 20 (by decide) (htu _ U_132) rfl rfl dX8_bind_76 ?_
    refine lv_iload hx hb dX8_bind_79 (lv_at hl 0 rfl) ?_
    refine lv_aload_n hx hb dX8_bind_81 rfl (lv_at hl 1 rfl) ?_
    refine m_get (v := .int (nI (bnd z))) hx hb htu wu_in hown hK hP 16 (by decide) (htu _ U_41) rfl (m_v hR.1.2.2.1) dX8_bind_82 ?_
    refine m_ast (j := 2 * (one z t) + sd) (x := nI (bnd z)) hx hb hK hP hDD hS 17 20 rfl (by omega) (by decide) (mW_a20 _ _ _ _ _) dX8_bind_85 (fun H locs hP hS => ?_)
    refine lv_aload_n hx hb dX8_bind_86 rfl (lv_at hl 1 rfl) ?_
    refine m_get (v := .ref (md G 21)) hx hb htu wu_in hown hK hP 21 (by decide) (htu _ U_116) rfl rfl dX8_bind_87 ?_
    refine lv_iload hx hb dX8_bind_90 (lv_at hl 0 rfl) ?_
    refine lv_dup2_11 hx hb dX8_bind_92 rfl rfl ?_
    refine m_ald (j := 2 * (one z t) + sd) (v := nI ((row z sd t).length)) hx hb hK hP 18 21 rfl (by omega) (by decide) w1 dX8_bind_93 ?_
    refine lv_iconst (v := 1) hx hb dX8_bind_94 (by decide) ?_
    refine lv_iadd hx hb dX8_bind_95 ?_
    refine m_top (y := nI ((row z sd t).length + 1)) (nI_add ((row z sd t).length) 1) ?_
    refine m_ast (j := 2 * (one z t) + sd) (x := nI ((row z sd t).length + 1)) hx hb hK hP hDD hS 18 21 rfl (by omega) (by decide) (mW_a21 _ _ _ _ _) dX8_bind_96 (fun H locs hP hS => ?_)
    refine lv_aload_n hx hb dX8_bind_97 rfl (lv_at hl 1 rfl) ?_
    refine lv_dup hx hb dX8_bind_98 rfl ?_
    refine m_get (v := .int (nI (bnd z))) hx hb htu wu_in hown hK hP 16 (by decide) (htu _ U_41) rfl (m_v hR.1.2.2.1) dX8_bind_99 ?_
    refine lv_iconst (v := 1) hx hb dX8_bind_102 (by decide) ?_
    refine lv_iadd hx hb dX8_bind_103 ?_
    refine m_top (y := nI (bnd z + 1)) (nI_add (bnd z) 1) ?_
    refine m_put (ty := .int) (x := nI (bnd z + 1)) hx hb htu wu_in hown hK hP hDD hS 16 (by decide) (htu _ U_41) rfl rfl (by decide +kernel) rfl rfl (mO_s16 _ _ _) dX8_bind_104 (fun H locs hP hS => ?_)
    have k0 := hR.r_bind (J := fun a i => if a = 2 * one z t + sd ∧ i = (row z sd t).length then bnd z else ix a i) (L := (row z sd t).length) (q := 2 * one z t + sd) ht h3 hsd hx0 hbd rfl rfl (fun _ _ => rfl) (o' := upd o 16 (nI (bnd z + 1))) (F' := fput (fput (fput (fput (fput F 17 (bnd z) (nI x)) 18 (bnd z) ((-9))) 18 (ix (2 * one z t + sd) ((row z sd t).length - 1)) (nI (bnd z))) 20 (2 * (one z t) + sd) (nI (bnd z))) 21 (2 * (one z t) + sd) (nI ((row z sd t).length + 1))) rfl ⟨rfl, rfl, rfl, rfl, rfl, rfl, rfl⟩ rfl rfl rfl (fun h => absurd h (by omega)) (fun _ => ⟨rfl, rfl⟩) ⟨rfl, rfl, rfl, rfl, rfl, rfl, rfl, rfl, rfl⟩
    exact m_vret hx hb hr hK hP hS ⟨⟨_, k0⟩, (Kq.F (Kq.F (Kq.F (Kq.F (Kq.F (Kq.o Kq.rf (by decide)) (by decide)) (by decide)) (by decide)) (by decide)) (by decide))⟩ dX8_bind_107 hlocks

