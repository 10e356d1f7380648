theorem dX0_init_0 : decode cX0_init 0 = .ok (.aload_n 0, 1) := by decide +kernel
theorem dX0_init_1 : decode cX0_init 1 = .ok (.invokespecial 3, 3) := by decide +kernel
theorem dX0_init_4 : decode cX0_init 4 = .ok (.aload_n 0, 1) := by decide +kernel
theorem dX0_init_5 : decode cX0_init 5 = .ok (.iconst 4, 1) := by decide +kernel
theorem dX0_init_6 : decode cX0_init 6 = .ok (.newarray .int, 2) := by decide +kernel
theorem dX0_init_8 : decode cX0_init 8 = .ok (.putfield 9, 3) := by decide +kernel
theorem dX0_init_11 : decode cX0_init 11 = .ok (.return_, 1) := by decide +kernel
theorem dX0_init__0 : decode cX0_init_ 0 = .ok (.aload_n 0, 1) := by decide +kernel
theorem dX0_init__1 : decode cX0_init_ 1 = .ok (.invokespecial 3, 3) := by decide +kernel
theorem dX0_init__4 : decode cX0_init_ 4 = .ok (.aload_n 0, 1) := by decide +kernel
theorem dX0_init__5 : decode cX0_init_ 5 = .ok (.iconst 4, 1) := by decide +kernel
theorem dX0_init__6 : decode cX0_init_ 6 = .ok (.newarray .int, 2) := by decide +kernel
theorem dX0_init__8 : decode cX0_init_ 8 = .ok (.putfield 9, 3) := by decide +kernel
theorem dX0_init__11 : decode cX0_init_ 11 = .ok (.iconst 0, 1) := by decide +kernel
theorem dX0_init__12 : decode cX0_init_ 12 = .ok (.istore_n 2, 1) := by decide +kernel
theorem dX0_init__13 : decode cX0_init_ 13 = .ok (.iload_n 2, 1) := by decide +kernel
theorem dX0_init__14 : decode cX0_init_ 14 = .ok (.iload_n 1, 1) := by decide +kernel
theorem dX0_init__15 : decode cX0_init_ 15 = .ok (.if_icmp .ge 15, 3) := by decide +kernel
theorem dX0_init__18 : decode cX0_init_ 18 = .ok (.aload_n 0, 1) := by decide +kernel
theorem dX0_init__19 : decode cX0_init_ 19 = .ok (.bipush (-9), 2) := by decide +kernel
theorem dX0_init__21 : decode cX0_init_ 21 = .ok (.invokevirtual 15, 3) := by decide +kernel
theorem dX0_init__24 : decode cX0_init_ 24 = .ok (.iinc 2 1, 3) := by decide +kernel
theorem dX0_init__27 : decode cX0_init_ 27 = .ok (.goto (-14), 3) := by decide +kernel
theorem dX0_init__30 : decode cX0_init_ 30 = .ok (.return_, 1) := by decide +kernel
theorem dX0_holds_0 : decode cX0_holds 0 = .ok (.iload_n 1, 1) := by decide +kernel
theorem dX0_holds_1 : decode cX0_holds 1 = .ok (.ifCond .lt 15, 3) := by decide +kernel
theorem dX0_holds_4 : decode cX0_holds 4 = .ok (.iload_n 1, 1) := by decide +kernel
theorem dX0_holds_5 : decode cX0_holds 5 = .ok (.aload_n 0, 1) := by decide +kernel
theorem dX0_holds_6 : decode cX0_holds 6 = .ok (.getfield 19, 3) := by decide +kernel
theorem dX0_holds_9 : decode cX0_holds 9 = .ok (.if_icmp .ge 7, 3) := by decide +kernel
theorem dX0_holds_16 : decode cX0_holds 16 = .ok (.iconst 0, 1) := by decide +kernel
theorem dX0_holds_17 : decode cX0_holds 17 = .ok (.ireturn, 1) := by decide +kernel
theorem dX0_get_0 : decode cX0_get 0 = .ok (.iload_n 1, 1) := by decide +kernel
theorem dX0_get_1 : decode cX0_get 1 = .ok (.ifCond .lt 20, 3) := by decide +kernel
theorem dX0_get_4 : decode cX0_get 4 = .ok (.iload_n 1, 1) := by decide +kernel
theorem dX0_get_5 : decode cX0_get 5 = .ok (.aload_n 0, 1) := by decide +kernel
theorem dX0_get_6 : decode cX0_get 6 = .ok (.getfield 19, 3) := by decide +kernel
theorem dX0_get_9 : decode cX0_get 9 = .ok (.if_icmp .ge 12, 3) := by decide +kernel
theorem dX0_get_21 : decode cX0_get 21 = .ok (.bipush (-9), 2) := by decide +kernel
theorem dX0_get_23 : decode cX0_get 23 = .ok (.ireturn, 1) := by decide +kernel
theorem dX0_add_0 : decode cX0_add 0 = .ok (.aload_n 0, 1) := by decide +kernel
theorem dX0_add_1 : decode cX0_add 1 = .ok (.getfield 19, 3) := by decide +kernel
theorem dX0_add_4 : decode cX0_add 4 = .ok (.aload_n 0, 1) := by decide +kernel
theorem dX0_add_5 : decode cX0_add 5 = .ok (.getfield 9, 3) := by decide +kernel
theorem dX0_add_8 : decode cX0_add 8 = .ok (.arraylength, 1) := by decide +kernel
theorem dX0_add_9 : decode cX0_add 9 = .ok (.if_icmp .lt 22, 3) := by decide +kernel
theorem dX0_add_12 : decode cX0_add 12 = .ok (.aload_n 0, 1) := by decide +kernel
theorem dX0_add_13 : decode cX0_add 13 = .ok (.aload_n 0, 1) := by decide +kernel
theorem dX0_add_14 : decode cX0_add 14 = .ok (.getfield 9, 3) := by decide +kernel
theorem dX0_add_17 : decode cX0_add 17 = .ok (.iconst 2, 1) := by decide +kernel
theorem dX0_add_18 : decode cX0_add 18 = .ok (.aload_n 0, 1) := by decide +kernel
theorem dX0_add_19 : decode cX0_add 19 = .ok (.getfield 19, 3) := by decide +kernel
theorem dX0_add_22 : decode cX0_add 22 = .ok (.imul, 1) := by decide +kernel
theorem dX0_add_23 : decode cX0_add 23 = .ok (.iconst 4, 1) := by decide +kernel
theorem dX0_add_24 : decode cX0_add 24 = .ok (.iadd, 1) := by decide +kernel
theorem dX0_add_25 : decode cX0_add 25 = .ok (.invokestatic 23, 3) := by decide +kernel
theorem dX0_add_28 : decode cX0_add 28 = .ok (.putfield 9, 3) := by decide +kernel
theorem dX0_add_31 : decode cX0_add 31 = .ok (.aload_n 0, 1) := by decide +kernel
theorem dX0_add_32 : decode cX0_add 32 = .ok (.getfield 9, 3) := by decide +kernel
theorem dX0_add_35 : decode cX0_add 35 = .ok (.aload_n 0, 1) := by decide +kernel
theorem dX0_add_36 : decode cX0_add 36 = .ok (.getfield 19, 3) := by decide +kernel
theorem dX0_add_39 : decode cX0_add 39 = .ok (.iload_n 1, 1) := by decide +kernel
theorem dX0_add_40 : decode cX0_add 40 = .ok (.iastore, 1) := by decide +kernel
theorem dX0_add_41 : decode cX0_add 41 = .ok (.aload_n 0, 1) := by decide +kernel
theorem dX0_add_42 : decode cX0_add 42 = .ok (.dup, 1) := by decide +kernel
theorem dX0_add_43 : decode cX0_add 43 = .ok (.getfield 19, 3) := by decide +kernel
theorem dX0_add_46 : decode cX0_add 46 = .ok (.iconst 1, 1) := by decide +kernel
theorem dX0_add_47 : decode cX0_add 47 = .ok (.iadd, 1) := by decide +kernel
theorem dX0_add_48 : decode cX0_add 48 = .ok (.putfield 19, 3) := by decide +kernel
theorem dX0_add_51 : decode cX0_add 51 = .ok (.return_, 1) := by decide +kernel
theorem dX0_cutTo_0 : decode cX0_cutTo 0 = .ok (.iload_n 1, 1) := by decide +kernel
theorem dX0_cutTo_1 : decode cX0_cutTo 1 = .ok (.ifCond .lt 16, 3) := by decide +kernel
theorem dX0_cutTo_4 : decode cX0_cutTo 4 = .ok (.iload_n 1, 1) := by decide +kernel
theorem dX0_cutTo_5 : decode cX0_cutTo 5 = .ok (.aload_n 0, 1) := by decide +kernel
theorem dX0_cutTo_6 : decode cX0_cutTo 6 = .ok (.getfield 19, 3) := by decide +kernel
theorem dX0_cutTo_9 : decode cX0_cutTo 9 = .ok (.if_icmp .ge 8, 3) := by decide +kernel
theorem dX0_cutTo_17 : decode cX0_cutTo 17 = .ok (.return_, 1) := by decide +kernel
theorem dX1_init_0 : decode cX1_init 0 = .ok (.aload_n 0, 1) := by decide +kernel
theorem dX1_init_1 : decode cX1_init 1 = .ok (.invokespecial 3, 3) := by decide +kernel
theorem dX1_init_4 : decode cX1_init 4 = .ok (.aload_n 0, 1) := by decide +kernel
theorem dX1_init_5 : decode cX1_init 5 = .ok (.iload_n 1, 1) := by decide +kernel
theorem dX1_init_6 : decode cX1_init 6 = .ok (.iconst 0, 1) := by decide +kernel
theorem dX1_init_7 : decode cX1_init 7 = .ok (.invokestatic 9, 3) := by decide +kernel
theorem dX1_init_10 : decode cX1_init 10 = .ok (.newarray .byte, 2) := by decide +kernel
theorem dX1_init_12 : decode cX1_init 12 = .ok (.putfield 15, 3) := by decide +kernel
theorem dX1_init_15 : decode cX1_init 15 = .ok (.return_, 1) := by decide +kernel
theorem dX3_init_0 : decode cX3_init 0 = .ok (.aload_n 0, 1) := by decide +kernel
theorem dX3_init_1 : decode cX3_init 1 = .ok (.invokespecial 3, 3) := by decide +kernel
theorem dX3_init_4 : decode cX3_init 4 = .ok (.aload_n 0, 1) := by decide +kernel
theorem dX3_init_5 : decode cX3_init 5 = .ok (.new 9, 3) := by decide +kernel
theorem dX3_init_8 : decode cX3_init 8 = .ok (.dup, 1) := by decide +kernel
theorem dX3_init_9 : decode cX3_init 9 = .ok (.invokespecial 11, 3) := by decide +kernel
theorem dX3_init_12 : decode cX3_init 12 = .ok (.putfield 12, 3) := by decide +kernel
theorem dX3_init_15 : decode cX3_init 15 = .ok (.aload_n 0, 1) := by decide +kernel
theorem dX3_init_16 : decode cX3_init 16 = .ok (.new 9, 3) := by decide +kernel
theorem dX3_init_19 : decode cX3_init 19 = .ok (.dup, 1) := by decide +kernel
theorem dX3_init_20 : decode cX3_init 20 = .ok (.invokespecial 11, 3) := by decide +kernel
theorem dX3_init_23 : decode cX3_init 23 = .ok (.putfield 18, 3) := by decide +kernel
theorem dX3_init_26 : decode cX3_init 26 = .ok (.aload_n 0, 1) := by decide +kernel
theorem dX3_init_27 : decode cX3_init 27 = .ok (.new 9, 3) := by decide +kernel
theorem dX3_init_30 : decode cX3_init 30 = .ok (.dup, 1) := by decide +kernel
theorem dX3_init_31 : decode cX3_init 31 = .ok (.invokespecial 11, 3) := by decide +kernel
theorem dX3_init_34 : decode cX3_init 34 = .ok (.putfield 21, 3) := by decide +kernel
theorem dX3_init_37 : decode cX3_init 37 = .ok (.aload_n 0, 1) := by decide +kernel
theorem dX3_init_38 : decode cX3_init 38 = .ok (.new 9, 3) := by decide +kernel
theorem dX3_init_41 : decode cX3_init 41 = .ok (.dup, 1) := by decide +kernel
theorem dX3_init_42 : decode cX3_init 42 = .ok (.invokespecial 11, 3) := by decide +kernel
theorem dX3_init_45 : decode cX3_init 45 = .ok (.putfield 24, 3) := by decide +kernel
theorem dX3_init_48 : decode cX3_init 48 = .ok (.aload_n 0, 1) := by decide +kernel
theorem dX3_init_49 : decode cX3_init 49 = .ok (.new 9, 3) := by decide +kernel
theorem dX3_init_52 : decode cX3_init 52 = .ok (.dup, 1) := by decide +kernel
theorem dX3_init_53 : decode cX3_init 53 = .ok (.invokespecial 11, 3) := by decide +kernel
theorem dX3_init_56 : decode cX3_init 56 = .ok (.putfield 27, 3) := by decide +kernel
theorem dX3_init_59 : decode cX3_init 59 = .ok (.aload_n 0, 1) := by decide +kernel
theorem dX3_init_60 : decode cX3_init 60 = .ok (.new 9, 3) := by decide +kernel
theorem dX3_init_63 : decode cX3_init 63 = .ok (.dup, 1) := by decide +kernel
theorem dX3_init_64 : decode cX3_init 64 = .ok (.invokespecial 11, 3) := by decide +kernel
theorem dX3_init_67 : decode cX3_init 67 = .ok (.putfield 30, 3) := by decide +kernel
theorem dX3_init_70 : decode cX3_init 70 = .ok (.return_, 1) := by decide +kernel
theorem dX4_startAnew_0 : decode cX4_startAnew 0 = .ok (.aload_n 0, 1) := by decide +kernel
theorem dX4_startAnew_1 : decode cX4_startAnew 1 = .ok (.getfield 12, 3) := by decide +kernel
theorem dX4_startAnew_4 : decode cX4_startAnew 4 = .ok (.iconst 0, 1) := by decide +kernel
theorem dX4_startAnew_5 : decode cX4_startAnew 5 = .ok (.invokevirtual 61, 3) := by decide +kernel
theorem dX4_startAnew_8 : decode cX4_startAnew 8 = .ok (.aload_n 0, 1) := by decide +kernel
theorem dX4_startAnew_9 : decode cX4_startAnew 9 = .ok (.getfield 18, 3) := by decide +kernel
theorem dX4_startAnew_12 : decode cX4_startAnew 12 = .ok (.iconst 0, 1) := by decide +kernel
theorem dX4_startAnew_13 : decode cX4_startAnew 13 = .ok (.invokevirtual 61, 3) := by decide +kernel
theorem dX4_startAnew_16 : decode cX4_startAnew 16 = .ok (.aload_n 0, 1) := by decide +kernel
theorem dX4_startAnew_17 : decode cX4_startAnew 17 = .ok (.getfield 21, 3) := by decide +kernel
theorem dX4_startAnew_20 : decode cX4_startAnew 20 = .ok (.iconst 0, 1) := by decide +kernel
theorem dX4_startAnew_21 : decode cX4_startAnew 21 = .ok (.invokevirtual 61, 3) := by decide +kernel
theorem dX4_startAnew_24 : decode cX4_startAnew 24 = .ok (.aload_n 0, 1) := by decide +kernel
theorem dX4_startAnew_25 : decode cX4_startAnew 25 = .ok (.getfield 24, 3) := by decide +kernel
theorem dX4_startAnew_28 : decode cX4_startAnew 28 = .ok (.iconst 0, 1) := by decide +kernel
theorem dX4_startAnew_29 : decode cX4_startAnew 29 = .ok (.invokevirtual 61, 3) := by decide +kernel
theorem dX4_startAnew_32 : decode cX4_startAnew 32 = .ok (.aload_n 0, 1) := by decide +kernel
theorem dX4_startAnew_33 : decode cX4_startAnew 33 = .ok (.getfield 27, 3) := by decide +kernel
theorem dX4_startAnew_36 : decode cX4_startAnew 36 = .ok (.iconst 0, 1) := by decide +kernel
theorem dX4_startAnew_37 : decode cX4_startAnew 37 = .ok (.invokevirtual 61, 3) := by decide +kernel
theorem dX4_startAnew_40 : decode cX4_startAnew 40 = .ok (.aload_n 0, 1) := by decide +kernel
theorem dX4_startAnew_41 : decode cX4_startAnew 41 = .ok (.getfield 30, 3) := by decide +kernel
theorem dX4_startAnew_44 : decode cX4_startAnew 44 = .ok (.iconst 0, 1) := by decide +kernel
theorem dX4_startAnew_45 : decode cX4_startAnew 45 = .ok (.invokevirtual 61, 3) := by decide +kernel
theorem dX4_startAnew_48 : decode cX4_startAnew 48 = .ok (.aload_n 0, 1) := by decide +kernel
theorem dX4_startAnew_49 : decode cX4_startAnew 49 = .ok (.getfield 33, 3) := by decide +kernel
theorem dX4_startAnew_52 : decode cX4_startAnew 52 = .ok (.iconst 0, 1) := by decide +kernel
theorem dX4_startAnew_53 : decode cX4_startAnew 53 = .ok (.invokevirtual 61, 3) := by decide +kernel
theorem dX4_startAnew_56 : decode cX4_startAnew 56 = .ok (.aload_n 0, 1) := by decide +kernel
theorem dX4_startAnew_57 : decode cX4_startAnew 57 = .ok (.getfield 36, 3) := by decide +kernel
theorem dX4_startAnew_60 : decode cX4_startAnew 60 = .ok (.iconst 0, 1) := by decide +kernel
theorem dX4_startAnew_61 : decode cX4_startAnew 61 = .ok (.invokevirtual 61, 3) := by decide +kernel
theorem dX4_startAnew_64 : decode cX4_startAnew 64 = .ok (.aload_n 0, 1) := by decide +kernel
theorem dX4_startAnew_65 : decode cX4_startAnew 65 = .ok (.getfield 39, 3) := by decide +kernel
theorem dX4_startAnew_68 : decode cX4_startAnew 68 = .ok (.iconst 0, 1) := by decide +kernel
theorem dX4_startAnew_69 : decode cX4_startAnew 69 = .ok (.invokevirtual 61, 3) := by decide +kernel
theorem dX4_startAnew_72 : decode cX4_startAnew 72 = .ok (.aload_n 0, 1) := by decide +kernel
theorem dX4_startAnew_73 : decode cX4_startAnew 73 = .ok (.getfield 49, 3) := by decide +kernel
theorem dX4_startAnew_76 : decode cX4_startAnew 76 = .ok (.iconst 0, 1) := by decide +kernel
theorem dX4_startAnew_77 : decode cX4_startAnew 77 = .ok (.invokevirtual 61, 3) := by decide +kernel
theorem dX4_startAnew_80 : decode cX4_startAnew 80 = .ok (.aload_n 0, 1) := by decide +kernel
theorem dX4_startAnew_81 : decode cX4_startAnew 81 = .ok (.getfield 52, 3) := by decide +kernel
theorem dX4_startAnew_84 : decode cX4_startAnew 84 = .ok (.iconst 0, 1) := by decide +kernel
theorem dX4_startAnew_85 : decode cX4_startAnew 85 = .ok (.invokevirtual 61, 3) := by decide +kernel
theorem dX4_startAnew_88 : decode cX4_startAnew 88 = .ok (.aload_n 0, 1) := by decide +kernel
theorem dX4_startAnew_89 : decode cX4_startAnew 89 = .ok (.getfield 55, 3) := by decide +kernel
theorem dX4_startAnew_92 : decode cX4_startAnew 92 = .ok (.iconst 0, 1) := by decide +kernel
theorem dX4_startAnew_93 : decode cX4_startAnew 93 = .ok (.invokevirtual 61, 3) := by decide +kernel
theorem dX4_startAnew_96 : decode cX4_startAnew 96 = .ok (.aload_n 0, 1) := by decide +kernel
theorem dX4_startAnew_97 : decode cX4_startAnew 97 = .ok (.iconst 0, 1) := by decide +kernel
theorem dX4_startAnew_98 : decode cX4_startAnew 98 = .ok (.iconst 0, 1) := by decide +kernel
theorem dX4_startAnew_99 : decode cX4_startAnew 99 = .ok (.bipush (-9), 2) := by decide +kernel
theorem dX4_startAnew_101 : decode cX4_startAnew 101 = .ok (.bipush (-9), 2) := by decide +kernel
theorem dX4_startAnew_103 : decode cX4_startAnew 103 = .ok (.invokevirtual 65, 3) := by decide +kernel
theorem dX4_startAnew_106 : decode cX4_startAnew 106 = .ok (.pop, 1) := by decide +kernel
theorem dX4_startAnew_107 : decode cX4_startAnew 107 = .ok (.aload_n 0, 1) := by decide +kernel
theorem dX4_startAnew_108 : decode cX4_startAnew 108 = .ok (.iconst 1, 1) := by decide +kernel
theorem dX4_startAnew_109 : decode cX4_startAnew 109 = .ok (.iconst 0, 1) := by decide +kernel
theorem dX4_startAnew_110 : decode cX4_startAnew 110 = .ok (.bipush (-9), 2) := by decide +kernel
theorem dX4_startAnew_112 : decode cX4_startAnew 112 = .ok (.bipush (-9), 2) := by decide +kernel
theorem dX4_startAnew_114 : decode cX4_startAnew 114 = .ok (.invokevirtual 65, 3) := by decide +kernel
theorem dX4_startAnew_117 : decode cX4_startAnew 117 = .ok (.pop, 1) := by decide +kernel
theorem dX4_startAnew_118 : decode cX4_startAnew 118 = .ok (.return_, 1) := by decide +kernel
theorem dX4_addType_0 : decode cX4_addType 0 = .ok (.aload_n 0, 1) := by decide +kernel
theorem dX4_addType_1 : decode cX4_addType 1 = .ok (.getfield 12, 3) := by decide +kernel
theorem dX4_addType_4 : decode cX4_addType 4 = .ok (.getfield 69, 3) := by decide +kernel
theorem dX4_addType_7 : decode cX4_addType 7 = .ok (.istore 5, 2) := by decide +kernel
theorem dX4_addType_9 : decode cX4_addType 9 = .ok (.iload 5, 2) := by decide +kernel
theorem dX4_addType_11 : decode cX4_addType 11 = .ok (.sipush 602, 3) := by decide +kernel
theorem dX4_addType_14 : decode cX4_addType 14 = .ok (.if_icmp .lt 6, 3) := by decide +kernel
theorem dX4_addType_20 : decode cX4_addType 20 = .ok (.aload_n 0, 1) := by decide +kernel
theorem dX4_addType_21 : decode cX4_addType 21 = .ok (.getfield 12, 3) := by decide +kernel
theorem dX4_addType_24 : decode cX4_addType 24 = .ok (.iload_n 1, 1) := by decide +kernel
theorem dX4_addType_25 : decode cX4_addType 25 = .ok (.invokevirtual 73, 3) := by decide +kernel
theorem dX4_addType_28 : decode cX4_addType 28 = .ok (.aload_n 0, 1) := by decide +kernel
theorem dX4_addType_29 : decode cX4_addType 29 = .ok (.getfield 18, 3) := by decide +kernel
theorem dX4_addType_32 : decode cX4_addType 32 = .ok (.iload_n 2, 1) := by decide +kernel
theorem dX4_addType_33 : decode cX4_addType 33 = .ok (.invokevirtual 73, 3) := by decide +kernel
theorem dX4_addType_36 : decode cX4_addType 36 = .ok (.aload_n 0, 1) := by decide +kernel
theorem dX4_addType_37 : decode cX4_addType 37 = .ok (.getfield 21, 3) := by decide +kernel
theorem dX4_addType_40 : decode cX4_addType 40 = .ok (.iload_n 3, 1) := by decide +kernel
theorem dX4_addType_41 : decode cX4_addType 41 = .ok (.invokevirtual 73, 3) := by decide +kernel
theorem dX4_addType_44 : decode cX4_addType 44 = .ok (.aload_n 0, 1) := by decide +kernel
theorem dX4_addType_45 : decode cX4_addType 45 = .ok (.getfield 24, 3) := by decide +kernel
theorem dX4_addType_48 : decode cX4_addType 48 = .ok (.iload 4, 2) := by decide +kernel
theorem dX4_addType_50 : decode cX4_addType 50 = .ok (.invokevirtual 73, 3) := by decide +kernel
theorem dX4_addType_53 : decode cX4_addType 53 = .ok (.aload_n 0, 1) := by decide +kernel
theorem dX4_addType_54 : decode cX4_addType 54 = .ok (.getfield 49, 3) := by decide +kernel
theorem dX4_addType_57 : decode cX4_addType 57 = .ok (.bipush (-9), 2) := by decide +kernel
theorem dX4_addType_59 : decode cX4_addType 59 = .ok (.invokevirtual 73, 3) := by decide +kernel
theorem dX4_addType_62 : decode cX4_addType 62 = .ok (.iload 5, 2) := by decide +kernel
theorem dX4_addType_64 : decode cX4_addType 64 = .ok (.ireturn, 1) := by decide +kernel
theorem dJ7_copyOf_59c91_0 : decode cJ7_copyOf_59c91 0 = .ok (.iload_n 1, 1) := by decide +kernel
theorem dJ7_copyOf_59c91_1 : decode cJ7_copyOf_59c91 1 = .ok (.aload_n 0, 1) := by decide +kernel
theorem dJ7_copyOf_59c91_2 : decode cJ7_copyOf_59c91 2 = .ok (.arraylength, 1) := by decide +kernel
theorem dJ7_copyOf_59c91_3 : decode cJ7_copyOf_59c91 3 = .ok (.if_icmp .ne 11, 3) := by decide +kernel
theorem dJ7_copyOf_59c91_14 : decode cJ7_copyOf_59c91 14 = .ok (.iload_n 1, 1) := by decide +kernel
theorem dJ7_copyOf_59c91_15 : decode cJ7_copyOf_59c91 15 = .ok (.newarray .int, 2) := by decide +kernel
theorem dJ7_copyOf_59c91_17 : decode cJ7_copyOf_59c91 17 = .ok (.astore_n 2, 1) := by decide +kernel
theorem dJ7_copyOf_59c91_18 : decode cJ7_copyOf_59c91 18 = .ok (.aload_n 0, 1) := by decide +kernel
theorem dJ7_copyOf_59c91_19 : decode cJ7_copyOf_59c91 19 = .ok (.iconst 0, 1) := by decide +kernel
theorem dJ7_copyOf_59c91_20 : decode cJ7_copyOf_59c91 20 = .ok (.aload_n 2, 1) := by decide +kernel
theorem dJ7_copyOf_59c91_21 : decode cJ7_copyOf_59c91 21 = .ok (.iconst 0, 1) := by decide +kernel
theorem dJ7_copyOf_59c91_22 : decode cJ7_copyOf_59c91 22 = .ok (.aload_n 0, 1) := by decide +kernel
theorem dJ7_copyOf_59c91_23 : decode cJ7_copyOf_59c91 23 = .ok (.arraylength, 1) := by decide +kernel
theorem dJ7_copyOf_59c91_24 : decode cJ7_copyOf_59c91 24 = .ok (.iload_n 1, 1) := by decide +kernel
theorem dJ7_copyOf_59c91_25 : decode cJ7_copyOf_59c91 25 = .ok (.invokestatic 304, 3) := by decide +kernel
theorem dJ7_copyOf_59c91_28 : decode cJ7_copyOf_59c91 28 = .ok (.invokestatic 150, 3) := by decide +kernel
theorem dJ7_copyOf_59c91_31 : decode cJ7_copyOf_59c91 31 = .ok (.aload_n 2, 1) := by decide +kernel
theorem dJ7_copyOf_59c91_32 : decode cJ7_copyOf_59c91 32 = .ok (.areturn, 1) := by decide +kernel
