theorem dX4_boundsOf_0 : decode cX4_boundsOf 0 = .ok (.iconst 2, 1) := by decide +kernel
theorem dX4_boundsOf_1 : decode cX4_boundsOf 1 = .ok (.aload_n 0, 1) := by decide +kernel
theorem dX4_boundsOf_2 : decode cX4_boundsOf 2 = .ok (.getfield 21, 3) := by decide +kernel
theorem dX4_boundsOf_5 : decode cX4_boundsOf 5 = .ok (.iload_n 1, 1) := by decide +kernel
theorem dX4_boundsOf_6 : decode cX4_boundsOf 6 = .ok (.invokevirtual 89, 3) := by decide +kernel
theorem dX4_boundsOf_9 : decode cX4_boundsOf 9 = .ok (.imul, 1) := by decide +kernel
theorem dX4_boundsOf_10 : decode cX4_boundsOf 10 = .ok (.iload_n 2, 1) := by decide +kernel
theorem dX4_boundsOf_11 : decode cX4_boundsOf 11 = .ok (.iadd, 1) := by decide +kernel
theorem dX4_boundsOf_12 : decode cX4_boundsOf 12 = .ok (.istore_n 3, 1) := by decide +kernel
theorem dX4_boundsOf_13 : decode cX4_boundsOf 13 = .ok (.aload_n 0, 1) := by decide +kernel
theorem dX4_boundsOf_14 : decode cX4_boundsOf 14 = .ok (.getfield 12, 3) := by decide +kernel
theorem dX4_boundsOf_17 : decode cX4_boundsOf 17 = .ok (.iload_n 1, 1) := by decide +kernel
theorem dX4_boundsOf_18 : decode cX4_boundsOf 18 = .ok (.invokevirtual 89, 3) := by decide +kernel
theorem dX4_boundsOf_21 : decode cX4_boundsOf 21 = .ok (.iconst 4, 1) := by decide +kernel
theorem dX4_boundsOf_22 : decode cX4_boundsOf 22 = .ok (.if_icmp .ne 16, 3) := by decide +kernel
theorem dX4_boundsOf_38 : decode cX4_boundsOf 38 = .ok (.aload_n 0, 1) := by decide +kernel
theorem dX4_boundsOf_39 : decode cX4_boundsOf 39 = .ok (.getfield 46, 3) := by decide +kernel
theorem dX4_boundsOf_42 : decode cX4_boundsOf 42 = .ok (.areturn, 1) := by decide +kernel
theorem dX4_boundsOf_25 : decode cX4_boundsOf 25 = .ok (.iload_n 3, 1) := by decide +kernel
theorem dX4_boundsOf_26 : decode cX4_boundsOf 26 = .ok (.ifCond .lt 12, 3) := by decide +kernel
theorem dX4_boundsOf_29 : decode cX4_boundsOf 29 = .ok (.iload_n 3, 1) := by decide +kernel
theorem dX4_boundsOf_30 : decode cX4_boundsOf 30 = .ok (.aload_n 0, 1) := by decide +kernel
theorem dX4_boundsOf_31 : decode cX4_boundsOf 31 = .ok (.getfield 42, 3) := by decide +kernel
theorem dX4_boundsOf_34 : decode cX4_boundsOf 34 = .ok (.arraylength, 1) := by decide +kernel
theorem dX4_boundsOf_35 : decode cX4_boundsOf 35 = .ok (.if_icmp .lt 8, 3) := by decide +kernel
theorem dX4_boundsOf_43 : decode cX4_boundsOf 43 = .ok (.aload_n 0, 1) := by decide +kernel
theorem dX4_boundsOf_44 : decode cX4_boundsOf 44 = .ok (.getfield 42, 3) := by decide +kernel
theorem dX4_boundsOf_47 : decode cX4_boundsOf 47 = .ok (.iload_n 3, 1) := by decide +kernel
theorem dX4_boundsOf_48 : decode cX4_boundsOf 48 = .ok (.aaload, 1) := by decide +kernel
theorem dX4_boundsOf_49 : decode cX4_boundsOf 49 = .ok (.astore 4, 2) := by decide +kernel
theorem dX4_boundsOf_51 : decode cX4_boundsOf 51 = .ok (.aload 4, 2) := by decide +kernel
theorem dX4_boundsOf_53 : decode cX4_boundsOf 53 = .ok (.ifnonnull 10, 3) := by decide +kernel
theorem dX4_boundsOf_63 : decode cX4_boundsOf 63 = .ok (.aload 4, 2) := by decide +kernel
theorem dX4_boundsOf_65 : decode cX4_boundsOf 65 = .ok (.areturn, 1) := by decide +kernel
theorem dX4_partBy_0 : decode cX4_partBy 0 = .ok (.aload_n 0, 1) := by decide +kernel
theorem dX4_partBy_1 : decode cX4_partBy 1 = .ok (.iload_n 1, 1) := by decide +kernel
theorem dX4_partBy_2 : decode cX4_partBy 2 = .ok (.invokevirtual 92, 3) := by decide +kernel
theorem dX4_partBy_5 : decode cX4_partBy 5 = .ok (.istore_n 3, 1) := by decide +kernel
theorem dX4_partBy_6 : decode cX4_partBy 6 = .ok (.iconst 0, 1) := by decide +kernel
theorem dX4_partBy_7 : decode cX4_partBy 7 = .ok (.istore 4, 2) := by decide +kernel
theorem dX4_partBy_9 : decode cX4_partBy 9 = .ok (.iload 4, 2) := by decide +kernel
theorem dX4_partBy_11 : decode cX4_partBy 11 = .ok (.iload_n 3, 1) := by decide +kernel
theorem dX4_partBy_12 : decode cX4_partBy 12 = .ok (.if_icmp .ge 28, 3) := by decide +kernel
theorem dX4_partBy_40 : decode cX4_partBy 40 = .ok (.bipush (-9), 2) := by decide +kernel
theorem dX4_partBy_42 : decode cX4_partBy 42 = .ok (.ireturn, 1) := by decide +kernel
theorem dX4_partBy_15 : decode cX4_partBy 15 = .ok (.aload_n 0, 1) := by decide +kernel
theorem dX4_partBy_16 : decode cX4_partBy 16 = .ok (.iload_n 1, 1) := by decide +kernel
theorem dX4_partBy_17 : decode cX4_partBy 17 = .ok (.iload 4, 2) := by decide +kernel
theorem dX4_partBy_19 : decode cX4_partBy 19 = .ok (.invokevirtual 95, 3) := by decide +kernel
theorem dX4_partBy_22 : decode cX4_partBy 22 = .ok (.iload_n 2, 1) := by decide +kernel
theorem dX4_partBy_23 : decode cX4_partBy 23 = .ok (.if_icmp .ne 11, 3) := by decide +kernel
theorem dX4_partBy_34 : decode cX4_partBy 34 = .ok (.iinc 4 1, 3) := by decide +kernel
theorem dX4_partBy_37 : decode cX4_partBy 37 = .ok (.goto (-28), 3) := by decide +kernel
theorem dX4_partBy_26 : decode cX4_partBy 26 = .ok (.aload_n 0, 1) := by decide +kernel
theorem dX4_partBy_27 : decode cX4_partBy 27 = .ok (.iload_n 1, 1) := by decide +kernel
theorem dX4_partBy_28 : decode cX4_partBy 28 = .ok (.iload 4, 2) := by decide +kernel
theorem dX4_partBy_30 : decode cX4_partBy 30 = .ok (.invokevirtual 98, 3) := by decide +kernel
theorem dX4_partBy_33 : decode cX4_partBy 33 = .ok (.ireturn, 1) := by decide +kernel
theorem dX4_wasAsked_0 : decode cX4_wasAsked 0 = .ok (.aload_n 0, 1) := by decide +kernel
theorem dX4_wasAsked_1 : decode cX4_wasAsked 1 = .ok (.getfield 52, 3) := by decide +kernel
theorem dX4_wasAsked_4 : decode cX4_wasAsked 4 = .ok (.getfield 69, 3) := by decide +kernel
theorem dX4_wasAsked_7 : decode cX4_wasAsked 7 = .ok (.istore_n 3, 1) := by decide +kernel
theorem dX4_wasAsked_8 : decode cX4_wasAsked 8 = .ok (.aload_n 0, 1) := by decide +kernel
theorem dX4_wasAsked_9 : decode cX4_wasAsked 9 = .ok (.getfield 49, 3) := by decide +kernel
theorem dX4_wasAsked_12 : decode cX4_wasAsked 12 = .ok (.iload_n 1, 1) := by decide +kernel
theorem dX4_wasAsked_13 : decode cX4_wasAsked 13 = .ok (.invokevirtual 89, 3) := by decide +kernel
theorem dX4_wasAsked_16 : decode cX4_wasAsked 16 = .ok (.istore 4, 2) := by decide +kernel
theorem dX4_wasAsked_18 : decode cX4_wasAsked 18 = .ok (.iload 4, 2) := by decide +kernel
theorem dX4_wasAsked_20 : decode cX4_wasAsked 20 = .ok (.istore 5, 2) := by decide +kernel
theorem dX4_wasAsked_22 : decode cX4_wasAsked 22 = .ok (.iconst 0, 1) := by decide +kernel
theorem dX4_wasAsked_23 : decode cX4_wasAsked 23 = .ok (.istore 6, 2) := by decide +kernel
theorem dX4_wasAsked_25 : decode cX4_wasAsked 25 = .ok (.iload 6, 2) := by decide +kernel
theorem dX4_wasAsked_27 : decode cX4_wasAsked 27 = .ok (.iload_n 3, 1) := by decide +kernel
theorem dX4_wasAsked_28 : decode cX4_wasAsked 28 = .ok (.if_icmp .ge 42, 3) := by decide +kernel
theorem dX4_wasAsked_70 : decode cX4_wasAsked 70 = .ok (.aload_n 0, 1) := by decide +kernel
theorem dX4_wasAsked_71 : decode cX4_wasAsked 71 = .ok (.getfield 52, 3) := by decide +kernel
theorem dX4_wasAsked_74 : decode cX4_wasAsked 74 = .ok (.iload_n 2, 1) := by decide +kernel
theorem dX4_wasAsked_75 : decode cX4_wasAsked 75 = .ok (.invokevirtual 73, 3) := by decide +kernel
theorem dX4_wasAsked_78 : decode cX4_wasAsked 78 = .ok (.aload_n 0, 1) := by decide +kernel
theorem dX4_wasAsked_79 : decode cX4_wasAsked 79 = .ok (.getfield 55, 3) := by decide +kernel
theorem dX4_wasAsked_82 : decode cX4_wasAsked 82 = .ok (.iload 4, 2) := by decide +kernel
theorem dX4_wasAsked_84 : decode cX4_wasAsked 84 = .ok (.invokevirtual 73, 3) := by decide +kernel
theorem dX4_wasAsked_87 : decode cX4_wasAsked 87 = .ok (.aload_n 0, 1) := by decide +kernel
theorem dX4_wasAsked_88 : decode cX4_wasAsked 88 = .ok (.getfield 49, 3) := by decide +kernel
theorem dX4_wasAsked_91 : decode cX4_wasAsked 91 = .ok (.iload_n 1, 1) := by decide +kernel
theorem dX4_wasAsked_92 : decode cX4_wasAsked 92 = .ok (.iload_n 3, 1) := by decide +kernel
theorem dX4_wasAsked_93 : decode cX4_wasAsked 93 = .ok (.invokevirtual 101, 3) := by decide +kernel
theorem dX4_wasAsked_96 : decode cX4_wasAsked 96 = .ok (.iconst 0, 1) := by decide +kernel
theorem dX4_wasAsked_97 : decode cX4_wasAsked 97 = .ok (.ireturn, 1) := by decide +kernel
theorem dX4_wasAsked_31 : decode cX4_wasAsked 31 = .ok (.iload 5, 2) := by decide +kernel
theorem dX4_wasAsked_33 : decode cX4_wasAsked 33 = .ok (.bipush (-9), 2) := by decide +kernel
theorem dX4_wasAsked_35 : decode cX4_wasAsked 35 = .ok (.if_icmp .eq 35, 3) := by decide +kernel
theorem dX4_wasAsked_38 : decode cX4_wasAsked 38 = .ok (.aload_n 0, 1) := by decide +kernel
theorem dX4_wasAsked_39 : decode cX4_wasAsked 39 = .ok (.getfield 52, 3) := by decide +kernel
theorem dX4_wasAsked_42 : decode cX4_wasAsked 42 = .ok (.iload 5, 2) := by decide +kernel
theorem dX4_wasAsked_44 : decode cX4_wasAsked 44 = .ok (.invokevirtual 89, 3) := by decide +kernel
theorem dX4_wasAsked_47 : decode cX4_wasAsked 47 = .ok (.iload_n 2, 1) := by decide +kernel
theorem dX4_wasAsked_48 : decode cX4_wasAsked 48 = .ok (.if_icmp .ne 5, 3) := by decide +kernel
theorem dX4_wasAsked_53 : decode cX4_wasAsked 53 = .ok (.aload_n 0, 1) := by decide +kernel
theorem dX4_wasAsked_54 : decode cX4_wasAsked 54 = .ok (.getfield 55, 3) := by decide +kernel
theorem dX4_wasAsked_57 : decode cX4_wasAsked 57 = .ok (.iload 5, 2) := by decide +kernel
theorem dX4_wasAsked_59 : decode cX4_wasAsked 59 = .ok (.invokevirtual 89, 3) := by decide +kernel
theorem dX4_wasAsked_62 : decode cX4_wasAsked 62 = .ok (.istore 5, 2) := by decide +kernel
theorem dX4_wasAsked_64 : decode cX4_wasAsked 64 = .ok (.iinc 6 1, 3) := by decide +kernel
theorem dX4_wasAsked_67 : decode cX4_wasAsked 67 = .ok (.goto (-42), 3) := by decide +kernel
theorem dX4_wasAsked_51 : decode cX4_wasAsked 51 = .ok (.iconst 1, 1) := by decide +kernel
theorem dX4_wasAsked_52 : decode cX4_wasAsked 52 = .ok (.ireturn, 1) := by decide +kernel
theorem dX4_addRecord_0 : decode cX4_addRecord 0 = .ok (.iconst 0, 1) := by decide +kernel
theorem dX4_addRecord_1 : decode cX4_addRecord 1 = .ok (.istore_n 2, 1) := by decide +kernel
theorem dX4_addRecord_2 : decode cX4_addRecord 2 = .ok (.aload_n 0, 1) := by decide +kernel
theorem dX4_addRecord_3 : decode cX4_addRecord 3 = .ok (.getfield 36, 3) := by decide +kernel
theorem dX4_addRecord_6 : decode cX4_addRecord 6 = .ok (.getfield 69, 3) := by decide +kernel
theorem dX4_addRecord_9 : decode cX4_addRecord 9 = .ok (.istore_n 3, 1) := by decide +kernel
theorem dX4_addRecord_10 : decode cX4_addRecord 10 = .ok (.iload_n 1, 1) := by decide +kernel
theorem dX4_addRecord_11 : decode cX4_addRecord 11 = .ok (.istore 4, 2) := by decide +kernel
theorem dX4_addRecord_13 : decode cX4_addRecord 13 = .ok (.iload 4, 2) := by decide +kernel
theorem dX4_addRecord_15 : decode cX4_addRecord 15 = .ok (.iload_n 3, 1) := by decide +kernel
theorem dX4_addRecord_16 : decode cX4_addRecord 16 = .ok (.if_icmp .ge 27, 3) := by decide +kernel
theorem dX4_addRecord_43 : decode cX4_addRecord 43 = .ok (.aload_n 0, 1) := by decide +kernel
theorem dX4_addRecord_44 : decode cX4_addRecord 44 = .ok (.iconst 3, 1) := by decide +kernel
theorem dX4_addRecord_45 : decode cX4_addRecord 45 = .ok (.iload_n 2, 1) := by decide +kernel
theorem dX4_addRecord_46 : decode cX4_addRecord 46 = .ok (.aload_n 0, 1) := by decide +kernel
theorem dX4_addRecord_47 : decode cX4_addRecord 47 = .ok (.getfield 30, 3) := by decide +kernel
theorem dX4_addRecord_50 : decode cX4_addRecord 50 = .ok (.getfield 69, 3) := by decide +kernel
theorem dX4_addRecord_53 : decode cX4_addRecord 53 = .ok (.iload_n 3, 1) := by decide +kernel
theorem dX4_addRecord_54 : decode cX4_addRecord 54 = .ok (.iload_n 1, 1) := by decide +kernel
theorem dX4_addRecord_55 : decode cX4_addRecord 55 = .ok (.isub, 1) := by decide +kernel
theorem dX4_addRecord_56 : decode cX4_addRecord 56 = .ok (.invokevirtual 65, 3) := by decide +kernel
theorem dX4_addRecord_59 : decode cX4_addRecord 59 = .ok (.istore 4, 2) := by decide +kernel
theorem dX4_addRecord_61 : decode cX4_addRecord 61 = .ok (.iload 4, 2) := by decide +kernel
theorem dX4_addRecord_63 : decode cX4_addRecord 63 = .ok (.ifCond .ge 6, 3) := by decide +kernel
theorem dX4_addRecord_66 : decode cX4_addRecord 66 = .ok (.iload 4, 2) := by decide +kernel
theorem dX4_addRecord_68 : decode cX4_addRecord 68 = .ok (.ireturn, 1) := by decide +kernel
theorem dX4_addRecord_69 : decode cX4_addRecord 69 = .ok (.iload_n 1, 1) := by decide +kernel
theorem dX4_addRecord_70 : decode cX4_addRecord 70 = .ok (.istore 5, 2) := by decide +kernel
theorem dX4_addRecord_72 : decode cX4_addRecord 72 = .ok (.iload 5, 2) := by decide +kernel
theorem dX4_addRecord_74 : decode cX4_addRecord 74 = .ok (.iload_n 3, 1) := by decide +kernel
theorem dX4_addRecord_75 : decode cX4_addRecord 75 = .ok (.if_icmp .ge 41, 3) := by decide +kernel
theorem dX4_addRecord_116 : decode cX4_addRecord 116 = .ok (.aload_n 0, 1) := by decide +kernel
theorem dX4_addRecord_117 : decode cX4_addRecord 117 = .ok (.getfield 33, 3) := by decide +kernel
theorem dX4_addRecord_120 : decode cX4_addRecord 120 = .ok (.iload_n 1, 1) := by decide +kernel
theorem dX4_addRecord_121 : decode cX4_addRecord 121 = .ok (.invokevirtual 61, 3) := by decide +kernel
theorem dX4_addRecord_124 : decode cX4_addRecord 124 = .ok (.aload_n 0, 1) := by decide +kernel
theorem dX4_addRecord_125 : decode cX4_addRecord 125 = .ok (.getfield 36, 3) := by decide +kernel
theorem dX4_addRecord_128 : decode cX4_addRecord 128 = .ok (.iload_n 1, 1) := by decide +kernel
theorem dX4_addRecord_129 : decode cX4_addRecord 129 = .ok (.invokevirtual 61, 3) := by decide +kernel
theorem dX4_addRecord_132 : decode cX4_addRecord 132 = .ok (.iload 4, 2) := by decide +kernel
theorem dX4_addRecord_134 : decode cX4_addRecord 134 = .ok (.ireturn, 1) := by decide +kernel
theorem dX4_addRecord_78 : decode cX4_addRecord 78 = .ok (.aload_n 0, 1) := by decide +kernel
theorem dX4_addRecord_79 : decode cX4_addRecord 79 = .ok (.getfield 27, 3) := by decide +kernel
theorem dX4_addRecord_82 : decode cX4_addRecord 82 = .ok (.aload_n 0, 1) := by decide +kernel
theorem dX4_addRecord_83 : decode cX4_addRecord 83 = .ok (.getfield 33, 3) := by decide +kernel
theorem dX4_addRecord_86 : decode cX4_addRecord 86 = .ok (.iload 5, 2) := by decide +kernel
theorem dX4_addRecord_88 : decode cX4_addRecord 88 = .ok (.invokevirtual 89, 3) := by decide +kernel
theorem dX4_addRecord_91 : decode cX4_addRecord 91 = .ok (.invokevirtual 73, 3) := by decide +kernel
theorem dX4_addRecord_94 : decode cX4_addRecord 94 = .ok (.aload_n 0, 1) := by decide +kernel
theorem dX4_addRecord_95 : decode cX4_addRecord 95 = .ok (.getfield 30, 3) := by decide +kernel
theorem dX4_addRecord_98 : decode cX4_addRecord 98 = .ok (.aload_n 0, 1) := by decide +kernel
theorem dX4_addRecord_99 : decode cX4_addRecord 99 = .ok (.getfield 36, 3) := by decide +kernel
theorem dX4_addRecord_102 : decode cX4_addRecord 102 = .ok (.iload 5, 2) := by decide +kernel
theorem dX4_addRecord_104 : decode cX4_addRecord 104 = .ok (.invokevirtual 89, 3) := by decide +kernel
theorem dX4_addRecord_107 : decode cX4_addRecord 107 = .ok (.invokevirtual 73, 3) := by decide +kernel
theorem dX4_addRecord_110 : decode cX4_addRecord 110 = .ok (.iinc 5 1, 3) := by decide +kernel
theorem dX4_addRecord_113 : decode cX4_addRecord 113 = .ok (.goto (-41), 3) := by decide +kernel
theorem dX4_addRecord_19 : decode cX4_addRecord 19 = .ok (.iload_n 2, 1) := by decide +kernel
theorem dX4_addRecord_20 : decode cX4_addRecord 20 = .ok (.aload_n 0, 1) := by decide +kernel
theorem dX4_addRecord_21 : decode cX4_addRecord 21 = .ok (.aload_n 0, 1) := by decide +kernel
theorem dX4_addRecord_22 : decode cX4_addRecord 22 = .ok (.getfield 36, 3) := by decide +kernel
theorem dX4_addRecord_25 : decode cX4_addRecord 25 = .ok (.iload 4, 2) := by decide +kernel
theorem dX4_addRecord_27 : decode cX4_addRecord 27 = .ok (.invokevirtual 89, 3) := by decide +kernel
theorem dX4_addRecord_30 : decode cX4_addRecord 30 = .ok (.invokevirtual 79, 3) := by decide +kernel
theorem dX4_addRecord_33 : decode cX4_addRecord 33 = .ok (.invokestatic 83, 3) := by decide +kernel
theorem dX4_addRecord_36 : decode cX4_addRecord 36 = .ok (.istore_n 2, 1) := by decide +kernel
theorem dX4_addRecord_37 : decode cX4_addRecord 37 = .ok (.iinc 4 1, 3) := by decide +kernel
theorem dX4_addRecord_40 : decode cX4_addRecord 40 = .ok (.goto (-27), 3) := by decide +kernel
theorem dX4_addVariable_0 : decode cX4_addVariable 0 = .ok (.aload_n 0, 1) := by decide +kernel
theorem dX4_addVariable_1 : decode cX4_addVariable 1 = .ok (.getfield 39, 3) := by decide +kernel
theorem dX4_addVariable_4 : decode cX4_addVariable 4 = .ok (.getfield 69, 3) := by decide +kernel
theorem dX4_addVariable_7 : decode cX4_addVariable 7 = .ok (.istore_n 2, 1) := by decide +kernel
theorem dX4_addVariable_8 : decode cX4_addVariable 8 = .ok (.iload_n 2, 1) := by decide +kernel
theorem dX4_addVariable_9 : decode cX4_addVariable 9 = .ok (.sipush 150, 3) := by decide +kernel
theorem dX4_addVariable_12 : decode cX4_addVariable 12 = .ok (.if_icmp .lt 6, 3) := by decide +kernel
theorem dX4_addVariable_18 : decode cX4_addVariable 18 = .ok (.aload_n 0, 1) := by decide +kernel
theorem dX4_addVariable_19 : decode cX4_addVariable 19 = .ok (.iconst 4, 1) := by decide +kernel
theorem dX4_addVariable_20 : decode cX4_addVariable 20 = .ok (.iload_n 1, 1) := by decide +kernel
theorem dX4_addVariable_21 : decode cX4_addVariable 21 = .ok (.iload_n 2, 1) := by decide +kernel
theorem dX4_addVariable_22 : decode cX4_addVariable 22 = .ok (.bipush (-9), 2) := by decide +kernel
theorem dX4_addVariable_24 : decode cX4_addVariable 24 = .ok (.invokevirtual 65, 3) := by decide +kernel
theorem dX4_addVariable_27 : decode cX4_addVariable 27 = .ok (.istore_n 3, 1) := by decide +kernel
theorem dX4_addVariable_28 : decode cX4_addVariable 28 = .ok (.iload_n 3, 1) := by decide +kernel
theorem dX4_addVariable_29 : decode cX4_addVariable 29 = .ok (.ifCond .ge 5, 3) := by decide +kernel
theorem dX4_addVariable_32 : decode cX4_addVariable 32 = .ok (.iload_n 3, 1) := by decide +kernel
theorem dX4_addVariable_33 : decode cX4_addVariable 33 = .ok (.ireturn, 1) := by decide +kernel
theorem dX4_addVariable_34 : decode cX4_addVariable 34 = .ok (.aload_n 0, 1) := by decide +kernel
theorem dX4_addVariable_35 : decode cX4_addVariable 35 = .ok (.getfield 39, 3) := by decide +kernel
theorem dX4_addVariable_38 : decode cX4_addVariable 38 = .ok (.iload_n 3, 1) := by decide +kernel
theorem dX4_addVariable_39 : decode cX4_addVariable 39 = .ok (.invokevirtual 73, 3) := by decide +kernel
theorem dX4_addVariable_42 : decode cX4_addVariable 42 = .ok (.aload_n 0, 1) := by decide +kernel
theorem dX4_addVariable_43 : decode cX4_addVariable 43 = .ok (.iconst 2, 1) := by decide +kernel
theorem dX4_addVariable_44 : decode cX4_addVariable 44 = .ok (.iload_n 2, 1) := by decide +kernel
theorem dX4_addVariable_45 : decode cX4_addVariable 45 = .ok (.imul, 1) := by decide +kernel
theorem dX4_addVariable_46 : decode cX4_addVariable 46 = .ok (.iconst 0, 1) := by decide +kernel
theorem dX4_addVariable_47 : decode cX4_addVariable 47 = .ok (.iadd, 1) := by decide +kernel
theorem dX4_addVariable_48 : decode cX4_addVariable 48 = .ok (.invokevirtual 76, 3) := by decide +kernel
theorem dX4_addVariable_51 : decode cX4_addVariable 51 = .ok (.aload_n 0, 1) := by decide +kernel
theorem dX4_addVariable_52 : decode cX4_addVariable 52 = .ok (.iconst 2, 1) := by decide +kernel
theorem dX4_addVariable_53 : decode cX4_addVariable 53 = .ok (.iload_n 2, 1) := by decide +kernel
theorem dX4_addVariable_54 : decode cX4_addVariable 54 = .ok (.imul, 1) := by decide +kernel
theorem dX4_addVariable_55 : decode cX4_addVariable 55 = .ok (.iconst 1, 1) := by decide +kernel
theorem dX4_addVariable_56 : decode cX4_addVariable 56 = .ok (.iadd, 1) := by decide +kernel
theorem dX4_addVariable_57 : decode cX4_addVariable 57 = .ok (.invokevirtual 76, 3) := by decide +kernel
theorem dX4_addVariable_60 : decode cX4_addVariable 60 = .ok (.iload_n 3, 1) := by decide +kernel
theorem dX4_addVariable_61 : decode cX4_addVariable 61 = .ok (.ireturn, 1) := by decide +kernel
theorem dX4_addVariable_15 : decode cX4_addVariable 15 = .ok (.bipush (-6), 2) := by decide +kernel
theorem dX4_addVariable_17 : decode cX4_addVariable 17 = .ok (.ireturn, 1) := by decide +kernel
theorem dX4_startAnew_0 : decode cX4_startAnew 0 = .ok (.aload_n 0, 1) := by decide +kernel
theorem dX4_startAnew_1 : decode cX4_startAnew 1 = .ok (.getfield 12, 3) := by decide +kernel
theorem dX4_startAnew_4 : decode cX4_startAnew 4 = .ok (.iconst 0, 1) := by decide +kernel
theorem dX4_startAnew_5 : decode cX4_startAnew 5 = .ok (.invokevirtual 61, 3) := by decide +kernel
theorem dX4_startAnew_8 : decode cX4_startAnew 8 = .ok (.aload_n 0, 1) := by decide +kernel
theorem dX4_startAnew_9 : decode cX4_startAnew 9 = .ok (.getfield 18, 3) := by decide +kernel
theorem dX4_startAnew_12 : decode cX4_startAnew 12 = .ok (.iconst 0, 1) := by decide +kernel
theorem dX4_startAnew_13 : decode cX4_startAnew 13 = .ok (.invokevirtual 61, 3) := by decide +kernel
theorem dX4_startAnew_16 : decode cX4_startAnew 16 = .ok (.aload_n 0, 1) := by decide +kernel
theorem dX4_startAnew_17 : decode cX4_startAnew 17 = .ok (.getfield 21, 3) := by decide +kernel
theorem dX4_startAnew_20 : decode cX4_startAnew 20 = .ok (.iconst 0, 1) := by decide +kernel
theorem dX4_startAnew_21 : decode cX4_startAnew 21 = .ok (.invokevirtual 61, 3) := by decide +kernel
theorem dX4_startAnew_24 : decode cX4_startAnew 24 = .ok (.aload_n 0, 1) := by decide +kernel
theorem dX4_startAnew_25 : decode cX4_startAnew 25 = .ok (.getfield 24, 3) := by decide +kernel
theorem dX4_startAnew_28 : decode cX4_startAnew 28 = .ok (.iconst 0, 1) := by decide +kernel
theorem dX4_startAnew_29 : decode cX4_startAnew 29 = .ok (.invokevirtual 61, 3) := by decide +kernel
theorem dX4_startAnew_32 : decode cX4_startAnew 32 = .ok (.aload_n 0, 1) := by decide +kernel
theorem dX4_startAnew_33 : decode cX4_startAnew 33 = .ok (.getfield 27, 3) := by decide +kernel
theorem dX4_startAnew_36 : decode cX4_startAnew 36 = .ok (.iconst 0, 1) := by decide +kernel
theorem dX4_startAnew_37 : decode cX4_startAnew 37 = .ok (.invokevirtual 61, 3) := by decide +kernel
theorem dX4_startAnew_40 : decode cX4_startAnew 40 = .ok (.aload_n 0, 1) := by decide +kernel
theorem dX4_startAnew_41 : decode cX4_startAnew 41 = .ok (.getfield 30, 3) := by decide +kernel
theorem dX4_startAnew_44 : decode cX4_startAnew 44 = .ok (.iconst 0, 1) := by decide +kernel
theorem dX4_startAnew_45 : decode cX4_startAnew 45 = .ok (.invokevirtual 61, 3) := by decide +kernel
theorem dX4_startAnew_48 : decode cX4_startAnew 48 = .ok (.aload_n 0, 1) := by decide +kernel
theorem dX4_startAnew_49 : decode cX4_startAnew 49 = .ok (.getfield 33, 3) := by decide +kernel
theorem dX4_startAnew_52 : decode cX4_startAnew 52 = .ok (.iconst 0, 1) := by decide +kernel
theorem dX4_startAnew_53 : decode cX4_startAnew 53 = .ok (.invokevirtual 61, 3) := by decide +kernel
theorem dX4_startAnew_56 : decode cX4_startAnew 56 = .ok (.aload_n 0, 1) := by decide +kernel
theorem dX4_startAnew_57 : decode cX4_startAnew 57 = .ok (.getfield 36, 3) := by decide +kernel
theorem dX4_startAnew_60 : decode cX4_startAnew 60 = .ok (.iconst 0, 1) := by decide +kernel
theorem dX4_startAnew_61 : decode cX4_startAnew 61 = .ok (.invokevirtual 61, 3) := by decide +kernel
theorem dX4_startAnew_64 : decode cX4_startAnew 64 = .ok (.aload_n 0, 1) := by decide +kernel
theorem dX4_startAnew_65 : decode cX4_startAnew 65 = .ok (.getfield 39, 3) := by decide +kernel
theorem dX4_startAnew_68 : decode cX4_startAnew 68 = .ok (.iconst 0, 1) := by decide +kernel
theorem dX4_startAnew_69 : decode cX4_startAnew 69 = .ok (.invokevirtual 61, 3) := by decide +kernel
theorem dX4_startAnew_72 : decode cX4_startAnew 72 = .ok (.aload_n 0, 1) := by decide +kernel
theorem dX4_startAnew_73 : decode cX4_startAnew 73 = .ok (.getfield 49, 3) := by decide +kernel
theorem dX4_startAnew_76 : decode cX4_startAnew 76 = .ok (.iconst 0, 1) := by decide +kernel
theorem dX4_startAnew_77 : decode cX4_startAnew 77 = .ok (.invokevirtual 61, 3) := by decide +kernel
theorem dX4_startAnew_80 : decode cX4_startAnew 80 = .ok (.aload_n 0, 1) := by decide +kernel
theorem dX4_startAnew_81 : decode cX4_startAnew 81 = .ok (.getfield 52, 3) := by decide +kernel
theorem dX4_startAnew_84 : decode cX4_startAnew 84 = .ok (.iconst 0, 1) := by decide +kernel
theorem dX4_startAnew_85 : decode cX4_startAnew 85 = .ok (.invokevirtual 61, 3) := by decide +kernel
theorem dX4_startAnew_88 : decode cX4_startAnew 88 = .ok (.aload_n 0, 1) := by decide +kernel
theorem dX4_startAnew_89 : decode cX4_startAnew 89 = .ok (.getfield 55, 3) := by decide +kernel
theorem dX4_startAnew_92 : decode cX4_startAnew 92 = .ok (.iconst 0, 1) := by decide +kernel
theorem dX4_startAnew_93 : decode cX4_startAnew 93 = .ok (.invokevirtual 61, 3) := by decide +kernel
theorem dX4_startAnew_96 : decode cX4_startAnew 96 = .ok (.aload_n 0, 1) := by decide +kernel
theorem dX4_startAnew_97 : decode cX4_startAnew 97 = .ok (.iconst 0, 1) := by decide +kernel
theorem dX4_startAnew_98 : decode cX4_startAnew 98 = .ok (.iconst 0, 1) := by decide +kernel
theorem dX4_startAnew_99 : decode cX4_startAnew 99 = .ok (.bipush (-9), 2) := by decide +kernel
theorem dX4_startAnew_101 : decode cX4_startAnew 101 = .ok (.bipush (-9), 2) := by decide +kernel
theorem dX4_startAnew_103 : decode cX4_startAnew 103 = .ok (.invokevirtual 65, 3) := by decide +kernel
theorem dX4_startAnew_106 : decode cX4_startAnew 106 = .ok (.pop, 1) := by decide +kernel
theorem dX4_startAnew_107 : decode cX4_startAnew 107 = .ok (.aload_n 0, 1) := by decide +kernel
theorem dX4_startAnew_108 : decode cX4_startAnew 108 = .ok (.iconst 1, 1) := by decide +kernel
theorem dX4_startAnew_109 : decode cX4_startAnew 109 = .ok (.iconst 0, 1) := by decide +kernel
theorem dX4_startAnew_110 : decode cX4_startAnew 110 = .ok (.bipush (-9), 2) := by decide +kernel
theorem dX4_startAnew_112 : decode cX4_startAnew 112 = .ok (.bipush (-9), 2) := by decide +kernel
theorem dX4_startAnew_114 : decode cX4_startAnew 114 = .ok (.invokevirtual 65, 3) := by decide +kernel
theorem dX4_startAnew_117 : decode cX4_startAnew 117 = .ok (.pop, 1) := by decide +kernel
theorem dX4_startAnew_118 : decode cX4_startAnew 118 = .ok (.return_, 1) := by decide +kernel
theorem TY.put {S u : cS} {rs : List Nat} {T V VP X Y Z X' Y' Z' : Nat} (h : TY S T V VP X Y Z) (a : AW rs [] S u) (hr : ∀ r ∈ [6, 7, 8, 9, 14, 16], r ∉ rs) (h10 : kK u 10 = X') (h11 : kK u 11 = X') (h12 : kK u 12 = Y') (h13 : kK u 13 = Y') (h17 : kK u 17 = Z') (h18 : kK u 18 = Z') (hx : X' ≤ 6 * T) : TY u T V VP X' Y' Z' := by
  obtain ⟨⟨a1, a2, a3, a4, a5, a6, a7, a8, a9, a10, a11, a12⟩, ⟨b1, b2, b3, b4⟩, c, d, d2⟩ := h
  have k : ∀ r, r < 35 → r ∈ [6, 7, 8, 9, 14, 16] → kF u r = kF S r ∧ kK u r = kK S r := fun r h1 h2 => a.2.1 r (by omega) (by rw [Nat.min_eq_left (by omega)]; exact hr r h2)
  refine ⟨⟨(k 6 (by decide) (by decide)).2.trans a1, (k 7 (by decide) (by decide)).2.trans a2, (k 8 (by decide) (by decide)).2.trans a3, (k 9 (by decide) (by decide)).2.trans a4, (k 16 (by decide) (by decide)).2.trans a5, (k 14 (by decide) (by decide)).2.trans a6, h10, h11, h12, h13, h17, h18⟩, ⟨b1, b2, Nat.le_trans b3 a.2.2.2.1, hx⟩, ?_, ?_, ?_⟩
  · rw [(k 6 (by decide) (by decide)).1, (k 8 (by decide) (by decide)).1, (k 7 (by decide) (by decide)).1]
    exact c
  · rw [(k 6 (by decide) (by decide)).1, (k 9 (by decide) (by decide)).1]
    exact d
  · rw [(k 6 (by decide) (by decide)).1, (k 7 (by decide) (by decide)).1]
    exact d2
/-- lastAsked's contents don't count -/
theorem TY.las {S u : cS} {T V VP X Y Z Z' : Nat} (h : TY S T V VP X Y Z) (a : AW [16, 17, 18] [] S u) (h16 : kK u 16 = T) (h17 : kK u 17 = Z') (h18 : kK u 18 = Z') : TY u T V VP X Y Z' := by
  obtain ⟨⟨a1, a2, a3, a4, a5, a6, a7, a8, a9, a10, a11, a12⟩, ⟨b1, b2, b3, b4⟩, c, d, d2⟩ := h
  have k : ∀ r, r < 35 → r ∈ [6, 7, 8, 9, 14, 10, 11, 12, 13] → kF u r = kF S r ∧ kK u r = kK S r := fun r h1 h2 => a.2.1 r (by omega) (by rw [Nat.min_eq_left (by omega)]; revert r; decide)
  refine ⟨⟨(k 6 (by decide) (by decide)).2.trans a1, (k 7 (by decide) (by decide)).2.trans a2, (k 8 (by decide) (by decide)).2.trans a3, (k 9 (by decide) (by decide)).2.trans a4, h16, (k 14 (by decide) (by decide)).2.trans a6, (k 10 (by decide) (by decide)).2.trans a7, (k 11 (by decide) (by decide)).2.trans a8, (k 12 (by decide) (by decide)).2.trans a9, (k 13 (by decide) (by decide)).2.trans a10, h17, h18⟩, ⟨b1, b2, Nat.le_trans b3 a.2.2.2.1, b4⟩, ?_, ?_, ?_⟩
  · rw [(k 6 (by decide) (by decide)).1, (k 8 (by decide) (by decide)).1, (k 7 (by decide) (by decide)).1]
    exact c
  · rw [(k 6 (by decide) (by decide)).1, (k 9 (by decide) (by decide)).1]
    exact d
  · rw [(k 6 (by decide) (by decide)).1, (k 7 (by decide) (by decide)).1]
    exact d2
/-- one more VARIABLE -/
theorem TY.var {S u : cS} {T V VP X Y Z : Nat} (h : TY S T V VP X Y Z) (a : AW [14, 35] [] S u) (h14 : kK u 14 = V + 1) (hv : V < 150) (hB : 2 * (V + 1) ≤ kB u) : TY u T (V + 1) VP X Y Z := by
  obtain ⟨⟨a1, a2, a3, a4, a5, a6, a7, a8, a9, a10, a11, a12⟩, ⟨b1, b2, b3, b4⟩, c, d, d2⟩ := h
  have k : ∀ r, r < 35 → r ∈ [6, 7, 8, 9, 16, 10, 11, 12, 13, 17, 18] → kF u r = kF S r ∧ kK u r = kK S r := fun r h1 h2 => a.2.1 r (by omega) (by rw [Nat.min_eq_left (by omega)]; revert r; decide)
  refine ⟨⟨(k 6 (by decide) (by decide)).2.trans a1, (k 7 (by decide) (by decide)).2.trans a2, (k 8 (by decide) (by decide)).2.trans a3, (k 9 (by decide) (by decide)).2.trans a4, (k 16 (by decide) (by decide)).2.trans a5, h14, (k 10 (by decide) (by decide)).2.trans a7, (k 11 (by decide) (by decide)).2.trans a8, (k 12 (by decide) (by decide)).2.trans a9, (k 13 (by decide) (by decide)).2.trans a10, (k 17 (by decide) (by decide)).2.trans a11, (k 18 (by decide) (by decide)).2.trans a12⟩, ⟨b1, hv, hB, b4⟩, ?_, ?_, ?_⟩
  · rw [(k 6 (by decide) (by decide)).1, (k 8 (by decide) (by decide)).1, (k 7 (by decide) (by decide)).1]
    exact c
  · rw [(k 6 (by decide) (by decide)).1, (k 9 (by decide) (by decide)).1]
    exact d
  · rw [(k 6 (by decide) (by decide)).1, (k 7 (by decide) (by decide)).1]
    exact d2

theorem bnd_lt {S : cS} {r T V sd : Nat} {t : Int32} (h : (r = 15 ∧ rget (kF S 6) (kK S 6) t ≠ 4) ∨ ∃ j w, j < T ∧ t = nI j ∧ kF S 6 j = 4 ∧ w < V ∧ kF S 8 j = nI w ∧ r = 35 + (2 * w + sd)) (hb : 2 * V ≤ kB S) (hs : sd < 2) : r < 35 + kB S := by
  rcases h with h | ⟨j, w, -, -, -, h1, -, h2⟩ <;> omega

set_option maxHeartbeats 4000000 in
set_option maxRecDepth 100000 in
/-- boundsOf -/
theorem y_boundsOf (l : Launch) (G : cG) (S : cS) (T : Nat) (V : Nat) (VP : Nat) (X : Nat) (Y : Nat) (Z : Nat) (t : Int32) (sd : Nat) (hC : CL S) (hY : TY S T V VP X Y Z) (hVP : VP ≤ V) (hsd : sd < 2) (Hs : Heap) : Met l yX4_boundsOf (wC yX4_boundsOf cX4_boundsOf 5 (some (.object "PolarTypes$Row"))) (cRm S 1 21) (cPc G S Hs [.ref (ga G 2), .int t, .int (nI sd)]) (cQr G S Hs (fun v u => AW [] [] S u ∧ (u = S ∧ ∃ r, v = kH S r ∧ ((r = 15 ∧ rget (kF S 6) (kK S 6) t ≠ 4) ∨ ∃ j w, j < T ∧ t = nI j ∧ kF S 6 j = 4 ∧ w < V ∧ kF S 8 j = nI w ∧ r = 35 + (2 * w + sd))))) (CC - PT S) (12 * (CC - PT S)) (cA G S Hs.size) := by
  refine Met.ofW (cc := cX4_boundsOf) (maxL := 5) (ret := (some (.object "PolarTypes$Row"))) (by decide) rfl ?_
  intro p e s m args below meth c s₁ B hml hv
  obtain ⟨rfl, hsz, hP, hK, hD0, -⟩ := hv
  have hx := B.exec
  have hb := B.bytes
  have hr := B.returns
  have htu : ∀ w ∈ CU, w.before _ s = true := fun w h => atoms_spec (ws := (wC yX4_boundsOf cX4_boundsOf 5 (some (.object "PolarTypes$Row")))) B.pre w (List.mem_cons_of_mem _ h)
  have hown : s.vm.findClass RX4 = some m.cls := findClass_of_methodNamed B.named
  have hlocks := B.notSynchronized
  subst hsz
  have hD : cD (cA G S s.heap.size) G S := cD_self hD0
  have hl := lv_entry ([.ref (ga G 2), .int t, .int (nI sd)]) (n := 5) (Nat.le_of_ble_eq_true rfl)
  rw [lg_entry_eq]
  generalize (lg_sl ([.ref (ga G 2), .int t, .int (nI sd)]) ++ List.replicate (5 - (lg_sl ([.ref (ga G 2), .int t, .int (nI sd)])).length) Slot.unset).toArray = ls at hl ⊢
  have hl : lv_has ls 5 [(0, .ref (ga G 2)), (1, .int t), (2, .int (nI sd))] := hl
  obtain ⟨H, hHe⟩ : ∃ H : Heap, H = s.heap := ⟨_, rfl⟩
  rw [← hHe] at hP
  have hS : va_S (cA G S s.heap.size) s.heap H [] := by rw [hHe]; exact va_S.rf
  have hh : HS S S := HS.rf
  have hpp : PT S ≤ PT S := Nat.le_refl _
  have hB9 := hC.1
  refine W.heq hHe ?_
  refine c_ent (S := S) ?_
  obtain ⟨⟨k6, k7, k8, k9, k16, k14, k10, k11, k12, k13, k17, k18⟩, ⟨tT, tV, tB, tX⟩, tv, tr, ts⟩ := id hY
  refine lv_iconst (v := 2) hx hb dX4_boundsOf_0 (by decide) ?_
  refine lv_aload_n hx hb dX4_boundsOf_1 rfl (lv_at hl 0 rfl) ?_
  refine va_get (D := gD G) (ci := 4) (v := .ref (kH S 8)) (C := RX4) (T := TX4) (N := 14) hx hb htu cu_in4 hown hK hP 2 cw_2 rfl 2 (by decide) (htu _ C_68) (fun _ h9 => h9) rfl dX4_boundsOf_2 ?_
  refine lv_iload_n hx hb dX4_boundsOf_5 rfl (lv_at hl 1 rfl) ?_
  have hC0 := hC
  refine c_ci (c_runV (As := [.int t]) (rest := [.int 2]) (q0 := (2 * 8 + 13)) (ci := 0) ⟨hx, hb, hml, hown, htu⟩ (c_getA l G S 8 (lt35 (by decide)) hC (kH S 8) rfl t H) (cwV 1 htu hU_X4_89 rfl rfl rfl (by decide +kernel) ⟨Nat.le_of_ble_eq_true rfl, Nat.le_of_ble_eq_true rfl⟩) hP hK hD hC hpp (c_hd rfl (cw_row (lt35 (by decide)))) rfl rfl hl.1 rfl (lv_room (Nat.le_of_ble_eq_true rfl)) dX4_boundsOf_6) hS hD hh hpp (fun r_1 S_2 H locs hw_3 hP hD hS hC hh hs_4 hpp => ?_)
  obtain ⟨hu9, hw_3⟩ := hw_3
  have hu9 := hu9.symm
  subst hu9
  refine lv_imul hx hb dX4_boundsOf_9 ?_
  refine lv_topi (fun f_5 ef_5 => ?_)
  refine lv_iload_n hx hb dX4_boundsOf_10 rfl (lv_at hl 2 rfl) ?_
  refine lv_iadd hx hb dX4_boundsOf_11 ?_
  refine lv_topi (fun f_6 ef_6 => ?_)
  refine lv_istore_n (lv' := [(3, .int f_6), (0, .ref (ga G 2)), (1, .int t), (2, .int (nI sd))]) hx hb dX4_boundsOf_12 rfl hl (by decide) rfl (fun ls hl => ?_)
  refine lv_aload_n hx hb dX4_boundsOf_13 rfl (lv_at hl 1 rfl) ?_
  refine va_get (D := gD G) (ci := 4) (v := .ref (kH S 6)) (C := RX4) (T := TX4) (N := 14) hx hb htu cu_in4 hown hK hP 2 cw_2 rfl 0 (by decide) (htu _ C_66) (fun _ h9 => h9) rfl dX4_boundsOf_14 ?_
  refine lv_iload_n hx hb dX4_boundsOf_17 rfl (lv_at hl 2 rfl) ?_
  have hC0 := hC
  refine c_ci (c_runV (As := [.int t]) (rest := []) (q0 := (2 * 6 + 13)) (ci := 0) ⟨hx, hb, hml, hown, htu⟩ (c_getA l G S 6 (lt35 (by decide)) hC (kH S 6) rfl t H) (cwV 1 htu hU_X4_89 rfl rfl rfl (by decide +kernel) ⟨Nat.le_of_ble_eq_true rfl, Nat.le_of_ble_eq_true rfl⟩) hP hK hD hC hpp (c_hd rfl (cw_row (lt35 (by decide)))) rfl rfl hl.1 rfl (lv_room (Nat.le_of_ble_eq_true rfl)) dX4_boundsOf_18) hS hD hh hpp (fun r_7 S_8 H locs hw_9 hP hD hS hC hh hs_10 hpp => ?_)
  obtain ⟨hu9, hw_9⟩ := hw_9
  have hu9 := hu9.symm
  subst hu9
  refine lv_iconst (v := 4) hx hb dX4_boundsOf_21 (by decide) ?_
  refine lv_icmp_ne (tgt := 38) hx hb dX4_boundsOf_22 (by decide) (fun c_11 => ?_) (fun c_11 => ?_)
  · skip
    refine lv_aload_n hx hb dX4_boundsOf_38 rfl (lv_at hl 1 rfl) ?_
    refine va_get (D := gD G) (ci := 4) (v := .ref (kH S 15)) (C := RX4) (T := TX4) (N := 14) hx hb htu cu_in4 hown hK hP 2 cw_2 rfl 10 (by decide) (htu _ C_76) (fun _ h9 => h9) rfl dX4_boundsOf_39 ?_
    exact c_aret (v := (kH S 15)) hx hb hr hK hP hD hS hC hh hpp rfl ⟨AW.rf, ⟨rfl, 15, rfl, Or.inl ⟨rfl, fun h => absurd (hw_9.trans h) c_11⟩⟩⟩ dX4_boundsOf_42 hlocks
  · skip
    obtain ⟨j9, q1, q2, q3⟩ := rget_in (v := 4) (hw_9.symm.trans c_11) (by decide) (by omega)
    obtain ⟨⟨v9, q4, q5⟩, -⟩ := tv j9 (by omega) q3
    have e9 : r_1 = nI v9 := by rw [hw_3, q2]; unfold rget; rw [if_neg (nI_n0 (by omega)), if_neg (fun h => by rw [i_le, nI_toInt (by omega), nI_toInt (by omega)] at h; omega), nI_clamp (by omega)]; exact q5
    have e10 : f_6 = nI (2 * v9 + sd) := by rw [ef_6, ef_5, e9]; exact (congrArg (· + nI sd) (pk_mul 2 v9)).trans (nI_add _ _)
    subst e10
    refine lv_iload_n hx hb dX4_boundsOf_25 rfl (lv_at hl 0 rfl) ?_
    refine lv_if_lt (tgt := 38) hx hb dX4_boundsOf_26 (by decide) (fun c_12 => absurd c_12 (nI_n0 (by omega))) (fun c_12 => ?_)
    refine lv_iload_n hx hb dX4_boundsOf_29 rfl (lv_at hl 0 rfl) ?_
    refine lv_aload_n hx hb dX4_boundsOf_30 rfl (lv_at hl 1 rfl) ?_
    refine va_get (D := gD G) (ci := 4) (v := .ref (ga G 12)) (C := RX4) (T := TX4) (N := 14) hx hb htu cu_in4 hown hK hP 2 cw_2 rfl 9 (by decide) (htu _ C_75) (fun _ h9 => h9) rfl dX4_boundsOf_31 ?_
    refine va_alen hx hb hK hP 12 2 cw_12 rfl (v := 300) rfl dX4_boundsOf_34 ?_
    refine lv_icmp_lt (tgt := 43) hx hb dX4_boundsOf_35 (by decide) (fun c_13 => ?_) (fun c_13 => absurd ((nI_ltI (a := 2 * v9 + sd) (b := 300) (by omega) (by omega)).mpr (by omega)) c_13)
    refine lv_aload_n hx hb dX4_boundsOf_43 rfl (lv_at hl 1 rfl) ?_
    refine va_get (D := gD G) (ci := 4) (v := .ref (ga G 12)) (C := RX4) (T := TX4) (N := 14) hx hb htu cu_in4 hown hK hP 2 cw_2 rfl 9 (by decide) (htu _ C_75) (fun _ h9 => h9) rfl dX4_boundsOf_44 ?_
    refine lv_iload_n hx hb dX4_boundsOf_47 rfl (lv_at hl 0 rfl) ?_
    refine va_aldq hx hb hK hP 12 2 cw_12 rfl (i := nI (2 * v9 + sd)) (vp_in_nI (by omega) (by decide)) dX4_boundsOf_48 ?_
    rw [nI_clamp (by omega), show va_rf (if 2 * v9 + sd < kB S then some (kH S (35 + (2 * v9 + sd))) else none) = .ref (kH S (35 + (2 * v9 + sd))) by rw [if_pos (show 2 * v9 + sd < kB S by omega)]; rfl]
    refine lv_astore (lv' := [(4, .ref (kH S (35 + (2 * v9 + sd)))), (3, .int (nI (2 * v9 + sd))), (0, .ref (ga G 2)), (1, .int t), (2, .int (nI sd))]) hx hb dX4_boundsOf_49 hl (by decide) rfl (fun ls hl => ?_)
    refine lv_aload hx hb dX4_boundsOf_51 (lv_at hl 0 rfl) ?_
    refine lv_ifnonnull (tgt := 63) hx hb dX4_boundsOf_53 (by decide) ?_
    refine lv_aload hx hb dX4_boundsOf_63 (lv_at hl 0 rfl) ?_
    exact c_aret (v := (kH S (35 + (2 * v9 + sd)))) hx hb hr hK hP hD hS hC hh hpp rfl ⟨AW.rf, ⟨rfl, 35 + (2 * v9 + sd), rfl, Or.inr ⟨j9, v9, Nat.lt_of_lt_of_eq q1 k6, q2, q3, Nat.lt_of_lt_of_le q4 hVP, q5, rfl⟩⟩⟩ dX4_boundsOf_65 hlocks

set_option maxHeartbeats 4000000 in
set_option maxRecDepth 100000 in
/-- partBy -/
theorem y_partBy (l : Launch) (G : cG) (S : cS) (T : Nat) (V : Nat) (VP : Nat) (X : Nat) (Y : Nat) (Z : Nat) (t : Int32) (x : Int32) (hC : CL S) (hY : TY S T V VP X Y Z) (Hs : Heap) : Met l yX4_partBy (wC yX4_partBy cX4_partBy 5 (some .int)) (cRm S 2 43) (cPc G S Hs [.ref (ga G 2), .int t, .int x]) (cQi G S Hs (fun v u => AW [] [] S u ∧ (u = S))) (CC - PT S) (12 * (CC - PT S)) (cA G S Hs.size) := by
  refine Met.ofW (cc := cX4_partBy) (maxL := 5) (ret := (some .int)) (by decide) rfl ?_
  intro p e s m args below meth c s₁ B hml hv
  obtain ⟨rfl, hsz, hP, hK, hD0, -⟩ := hv
  have hx := B.exec
  have hb := B.bytes
  have hr := B.returns
  have htu : ∀ w ∈ CU, w.before _ s = true := fun w h => atoms_spec (ws := (wC yX4_partBy cX4_partBy 5 (some .int))) B.pre w (List.mem_cons_of_mem _ h)
  have hown : s.vm.findClass RX4 = some m.cls := findClass_of_methodNamed B.named
  have hlocks := B.notSynchronized
  subst hsz
  have hD : cD (cA G S s.heap.size) G S := cD_self hD0
  have hl := lv_entry ([.ref (ga G 2), .int t, .int x]) (n := 5) (Nat.le_of_ble_eq_true rfl)
  rw [lg_entry_eq]
  generalize (lg_sl ([.ref (ga G 2), .int t, .int x]) ++ List.replicate (5 - (lg_sl ([.ref (ga G 2), .int t, .int x])).length) Slot.unset).toArray = ls at hl ⊢
  have hl : lv_has ls 5 [(0, .ref (ga G 2)), (1, .int t), (2, .int x)] := hl
  obtain ⟨H, hHe⟩ : ∃ H : Heap, H = s.heap := ⟨_, rfl⟩
  rw [← hHe] at hP
  have hS : va_S (cA G S s.heap.size) s.heap H [] := by rw [hHe]; exact va_S.rf
  have hh : HS S S := HS.rf
  have hpp : PT S ≤ PT S := Nat.le_refl _
  have hB9 := hC.1
  refine W.heq hHe ?_
  refine c_ent (S := S) ?_
  obtain ⟨⟨k6, k7, k8, k9, k16, k14, k10, k11, k12, k13, k17, k18⟩, ⟨tT, tV, tB, tX⟩, tv, tr, ts⟩ := id hY
  refine lv_aload_n hx hb dX4_partBy_0 rfl (lv_at hl 0 rfl) ?_
  refine lv_iload_n hx hb dX4_partBy_1 rfl (lv_at hl 1 rfl) ?_
  have hC0 := hC
  refine c_ci (c_runV (As := [.int t]) (rest := []) (q0 := 2) (ci := 4) ⟨hx, hb, hml, hown, htu⟩ (y_fieldCount l G S T V VP X Y Z t hC hY H) (cwV 1 htu hU_X4_92 rfl rfl rfl (by decide +kernel) ⟨Nat.le_of_ble_eq_true rfl, Nat.le_of_ble_eq_true rfl⟩) hP hK hD hC hpp cw_2 rfl rfl hl.1 rfl (lv_room (Nat.le_of_ble_eq_true rfl)) dX4_partBy_2) hS hD hh hpp (fun r_1 S_2 H locs hw_3 hP hD hS hC hh hs_4 hpp => ?_)
  obtain ⟨-, hu9, hw_3⟩ := hw_3
  have hu9 := hu9.symm
  subst hu9
  refine lv_istore_n (lv' := [(3, .int r_1), (0, .ref (ga G 2)), (1, .int t), (2, .int x)]) hx hb dX4_partBy_5 rfl hl (by decide) rfl (fun ls hl => ?_)
  refine lv_iconst (v := 0) hx hb dX4_partBy_6 (by decide) ?_
  refine lv_istore (lv' := [(4, .int 0), (3, .int r_1), (0, .ref (ga G 2)), (1, .int t), (2, .int x)]) hx hb dX4_partBy_7 hl (by decide) rfl (fun ls hl => ?_)
  refine w_loop (fun j H locs k sl g => ∃ (i : Nat) (ls : Array Slot), i + j = 6 ∧ k = PT S - PT S ∧ sl = 12 * (PT S - PT S) ∧ cP G S H ∧ cD (cA G S s.heap.size) G S ∧ va_S (cA G S s.heap.size) s.heap H locs ∧ lv_has ls 5 [(0, .ref (ga G 2)), (1, .int t), (2, .int x), (3, .int r_1), (4, .int (nI i))] ∧ g = F0 m 9 ls []) ?_ ?_ 6 _ _ _ _ _ ⟨0, ls, by omega, rfl, rfl, hP, hD, hS, lv_sub hl [2, 3, 4, 1, 0] rfl, rfl⟩
  · intro H locs k sl g hI
    obtain ⟨i, ls, hp0, rfl, rfl, hP, hD, hS, hl, rfl⟩ := hI
    refine lv_iload hx hb dX4_partBy_9 (lv_at hl 4 rfl) ?_
    refine lv_iload_n hx hb dX4_partBy_11 rfl (lv_at hl 3 rfl) ?_
    refine lv_icmp_ge (tgt := 40) hx hb dX4_partBy_12 (by decide) (fun c_5 => ?_) (fun c_5 => absurd (Int32.le_trans hw_3 (show (6 : Int32) ≤ nI i by rw [show i = 6 by omega]; decide)) c_5)
    refine lv_bipush (v := (-9)) hx hb dX4_partBy_40 (by decide) ?_
    exact c_iret (v := (-9)) hx hb hr hK hP hD hS hC hh hpp ⟨AW.rf, rfl⟩ dX4_partBy_42 hlocks
  · intro j ih9 H locs k sl g hI
    obtain ⟨i, ls, hp0, rfl, rfl, hP, hD, hS, hl, rfl⟩ := hI
    refine lv_iload hx hb dX4_partBy_9 (lv_at hl 4 rfl) ?_
    refine lv_iload_n hx hb dX4_partBy_11 rfl (lv_at hl 3 rfl) ?_
    refine lv_icmp_ge (tgt := 40) hx hb dX4_partBy_12 (by decide) (fun c_6 => ?_) (fun c_6 => ?_)
    · skip
      refine lv_bipush (v := (-9)) hx hb dX4_partBy_40 (by decide) ?_
      exact c_iret (v := (-9)) hx hb hr hK hP hD hS hC hh hpp ⟨AW.rf, rfl⟩ dX4_partBy_42 hlocks
    · skip
      refine lv_aload_n hx hb dX4_partBy_15 rfl (lv_at hl 0 rfl) ?_
      refine lv_iload_n hx hb dX4_partBy_16 rfl (lv_at hl 1 rfl) ?_
      refine lv_iload hx hb dX4_partBy_17 (lv_at hl 4 rfl) ?_
      have hC0 := hC
      refine c_ci (c_runV (As := [.int t, .int (nI i)]) (rest := []) (q0 := 2) (ci := 4) ⟨hx, hb, hml, hown, htu⟩ (y_labelAt l G S t (nI i) hC  H) (cwV 2 htu hU_X4_95 rfl rfl rfl (by decide +kernel) ⟨Nat.le_of_ble_eq_true rfl, Nat.le_of_ble_eq_true rfl⟩) hP hK hD hC hpp cw_2 rfl rfl hl.1 rfl (lv_room (Nat.le_of_ble_eq_true rfl)) dX4_partBy_19) hS hD hh hpp (fun r_7 S_8 H locs hw_9 hP hD hS hC hh hs_10 hpp => ?_)
      obtain ⟨-, hu9⟩ := hw_9
      have hu9 := hu9.symm
      subst hu9
      refine lv_iload_n hx hb dX4_partBy_22 rfl (lv_at hl 2 rfl) ?_
      refine lv_icmp_ne (tgt := 34) hx hb dX4_partBy_23 (by decide) (fun c_11 => ?_) (fun c_11 => ?_)
      · skip
        refine lv_iinc (v := nI (i + 1)) (lv' := [(4, .int (nI (i + 1))), (0, .ref (ga G 2)), (1, .int t), (2, .int x), (3, .int r_1)]) hx hb dX4_partBy_34 hl (k := 4) rfl (nI_1 i) (by decide) rfl (fun ls hl => ?_)
        refine lv_goto (tgt := 9) hx hb dX4_partBy_37 (by decide) ?_
        exact ih9 _ _ _ _ _ ⟨i + 1, ls, by omega, rfl, rfl, hP, hD, hS, lv_sub hl [1, 2, 3, 4, 0] rfl, rfl⟩
      · skip
        refine lv_aload_n hx hb dX4_partBy_26 rfl (lv_at hl 0 rfl) ?_
        refine lv_iload_n hx hb dX4_partBy_27 rfl (lv_at hl 1 rfl) ?_
        refine lv_iload hx hb dX4_partBy_28 (lv_at hl 4 rfl) ?_
        have hC0 := hC
        refine c_ci (c_runV (As := [.int t, .int (nI i)]) (rest := []) (q0 := 2) (ci := 4) ⟨hx, hb, hml, hown, htu⟩ (y_partAt l G S t (nI i) hC  H) (cwV 2 htu hU_X4_98 rfl rfl rfl (by decide +kernel) ⟨Nat.le_of_ble_eq_true rfl, Nat.le_of_ble_eq_true rfl⟩) hP hK hD hC hpp cw_2 rfl rfl hl.1 rfl (lv_room (Nat.le_of_ble_eq_true rfl)) dX4_partBy_30) hS hD hh hpp (fun r_12 S_13 H locs hw_14 hP hD hS hC hh hs_15 hpp => ?_)
        obtain ⟨-, hu9⟩ := hw_14
        have hu9 := hu9.symm
        subst hu9
        exact c_iret (v := r_12) hx hb hr hK hP hD hS hC hh hpp ⟨AW.rf, rfl⟩ dX4_partBy_33 hlocks

set_option maxHeartbeats 4000000 in
set_option maxRecDepth 100000 in
/-- wasAsked -/
theorem y_wasAsked (l : Launch) (G : cG) (S : cS) (T : Nat) (V : Nat) (VP : Nat) (X : Nat) (Y : Nat) (Z : Nat) (x : Int32) (y : Int32) (hC : CL S) (hY : TY S T V VP X Y Z) (hlt : Z < 1501) (Hs : Heap) : Met l yX4_wasAsked (wC yX4_wasAsked cX4_wasAsked 7 (some .boolean)) (cRm S 3 103) (cPc G S Hs [.ref (ga G 2), .int x, .int y]) (cQi G S Hs (fun v u => AW [16, 17, 18] [] S u ∧ ((v = 1 ∧ u = S) ∨ (v = 0 ∧ TY u T V VP X Y (Z + 1))))) (CC - PT S) (12 * (CC - PT S)) (cA G S Hs.size) := by
  refine Met.ofW (cc := cX4_wasAsked) (maxL := 7) (ret := (some .boolean)) (by decide) rfl ?_
  intro p e s m args below meth c s₁ B hml hv
  obtain ⟨rfl, hsz, hP, hK, hD0, -⟩ := hv
  have hx := B.exec
  have hb := B.bytes
  have hr := B.returns
  have htu : ∀ w ∈ CU, w.before _ s = true := fun w h => atoms_spec (ws := (wC yX4_wasAsked cX4_wasAsked 7 (some .boolean))) B.pre w (List.mem_cons_of_mem _ h)
  have hown : s.vm.findClass RX4 = some m.cls := findClass_of_methodNamed B.named
  have hlocks := B.notSynchronized
  subst hsz
  have hD : cD (cA G S s.heap.size) G S := cD_self hD0
  have hl := lv_entry ([.ref (ga G 2), .int x, .int y]) (n := 7) (Nat.le_of_ble_eq_true rfl)
  rw [lg_entry_eq]
  generalize (lg_sl ([.ref (ga G 2), .int x, .int y]) ++ List.replicate (7 - (lg_sl ([.ref (ga G 2), .int x, .int y])).length) Slot.unset).toArray = ls at hl ⊢
  have hl : lv_has ls 7 [(0, .ref (ga G 2)), (1, .int x), (2, .int y)] := hl
  obtain ⟨H, hHe⟩ : ∃ H : Heap, H = s.heap := ⟨_, rfl⟩
  rw [← hHe] at hP
  have hS : va_S (cA G S s.heap.size) s.heap H [] := by rw [hHe]; exact va_S.rf
  have hh : HS S S := HS.rf
  have hpp : PT S ≤ PT S := Nat.le_refl _
  have hB9 := hC.1
  refine W.heq hHe ?_
  refine c_ent (S := S) ?_
  obtain ⟨⟨k6, k7, k8, k9, k16, k14, k10, k11, k12, k13, k17, k18⟩, ⟨tT, tV, tB, tX⟩, tv, tr, ts⟩ := id hY
  refine lv_aload_n hx hb dX4_wasAsked_0 rfl (lv_at hl 0 rfl) ?_
  refine va_get (D := gD G) (ci := 4) (v := .ref (kH S 17)) (C := RX4) (T := TX4) (N := 14) hx hb htu cu_in4 hown hK hP 2 cw_2 rfl 12 (by decide) (htu _ C_78) (fun _ h9 => h9) rfl dX4_wasAsked_1 ?_
  refine va_get (D := gD G) (ci := 0) (v := .int (nI Z)) (C := RX0) (T := TX0) (N := 2) hx hb htu cu_in0 hown hK hP (2 * 17 + 13) (c_hd rfl (cw_row (lt35 (by decide)))) rfl 1 (by decide) (htu _ C_94) (fun _ h9 => h9) (m_v (congrArg nI k17)) dX4_wasAsked_4 ?_
  refine lv_istore_n (lv' := [(3, .int (nI Z)), (0, .ref (ga G 2)), (1, .int x), (2, .int y)]) hx hb dX4_wasAsked_7 rfl hl (by decide) rfl (fun ls hl => ?_)
  refine lv_aload_n hx hb dX4_wasAsked_8 rfl (lv_at hl 1 rfl) ?_
  refine va_get (D := gD G) (ci := 4) (v := .ref (kH S 16)) (C := RX4) (T := TX4) (N := 14) hx hb htu cu_in4 hown hK hP 2 cw_2 rfl 11 (by decide) (htu _ C_77) (fun _ h9 => h9) rfl dX4_wasAsked_9 ?_
  refine lv_iload_n hx hb dX4_wasAsked_12 rfl (lv_at hl 2 rfl) ?_
  have hC0 := hC
  refine c_ci (c_runV (As := [.int x]) (rest := []) (q0 := (2 * 16 + 13)) (ci := 0) ⟨hx, hb, hml, hown, htu⟩ (c_getA l G S 16 (lt35 (by decide)) hC (kH S 16) rfl x H) (cwV 1 htu hU_X4_89 rfl rfl rfl (by decide +kernel) ⟨Nat.le_of_ble_eq_true rfl, Nat.le_of_ble_eq_true rfl⟩) hP hK hD hC hpp (c_hd rfl (cw_row (lt35 (by decide)))) rfl rfl hl.1 rfl (lv_room (Nat.le_of_ble_eq_true rfl)) dX4_wasAsked_13) hS hD hh hpp (fun r_1 S_2 H locs hw_3 hP hD hS hC hh hs_4 hpp => ?_)
  obtain ⟨hu9, hw_3⟩ := hw_3
  have hu9 := hu9.symm
  subst hu9
  refine lv_istore (lv' := [(4, .int r_1), (3, .int (nI Z)), (0, .ref (ga G 2)), (1, .int x), (2, .int y)]) hx hb dX4_wasAsked_16 hl (by decide) rfl (fun ls hl => ?_)
  refine lv_iload hx hb dX4_wasAsked_18 (lv_at hl 0 rfl) ?_
  refine lv_istore (lv' := [(5, .int r_1), (4, .int r_1), (3, .int (nI Z)), (0, .ref (ga G 2)), (1, .int x), (2, .int y)]) hx hb dX4_wasAsked_20 hl (by decide) rfl (fun ls hl => ?_)
  refine lv_iconst (v := 0) hx hb dX4_wasAsked_22 (by decide) ?_
  refine lv_istore (lv' := [(6, .int 0), (5, .int r_1), (4, .int r_1), (3, .int (nI Z)), (0, .ref (ga G 2)), (1, .int x), (2, .int y)]) hx hb dX4_wasAsked_23 hl (by decide) rfl (fun ls hl => ?_)
  refine w_loop (fun j H locs k sl g => ∃ (pl : Int32) (i : Nat) (ls : Array Slot), i + j = Z ∧ k = PT S - PT S ∧ sl = 12 * (PT S - PT S) ∧ cP G S H ∧ cD (cA G S s.heap.size) G S ∧ va_S (cA G S s.heap.size) s.heap H locs ∧ lv_has ls 7 [(0, .ref (ga G 2)), (1, .int x), (2, .int y), (3, .int (nI Z)), (4, .int r_1), (5, .int pl), (6, .int (nI i))] ∧ g = F0 m 25 ls []) ?_ ?_ Z _ _ _ _ _ ⟨r_1, 0, ls, by omega, rfl, rfl, hP, hD, hS, lv_sub hl [4, 5, 6, 3, 2, 1, 0] rfl, rfl⟩
  · intro H locs k sl g hI
    obtain ⟨pl, i, ls, hp0, rfl, rfl, hP, hD, hS, hl, rfl⟩ := hI
    refine lv_iload hx hb dX4_wasAsked_25 (lv_at hl 6 rfl) ?_
    refine lv_iload_n hx hb dX4_wasAsked_27 rfl (lv_at hl 3 rfl) ?_
    refine lv_icmp_ge (tgt := 70) hx hb dX4_wasAsked_28 (by decide) (fun c_5 => ?_) (fun c_5 => absurd (nI_le (by omega) (by omega)) c_5)
    refine lv_aload_n hx hb dX4_wasAsked_70 rfl (lv_at hl 0 rfl) ?_
    refine va_get (D := gD G) (ci := 4) (v := .ref (kH S 17)) (C := RX4) (T := TX4) (N := 14) hx hb htu cu_in4 hown hK hP 2 cw_2 rfl 12 (by decide) (htu _ C_78) (fun _ h9 => h9) rfl dX4_wasAsked_71 ?_
    refine lv_iload_n hx hb dX4_wasAsked_74 rfl (lv_at hl 2 rfl) ?_
    have hC0 := hC
    refine c_cv (c_runV (As := [.int y]) (rest := []) (q0 := (2 * 17 + 13)) (ci := 0) ⟨hx, hb, hml, hown, htu⟩ (c_addA l G S 17 (lt35 (by decide)) hC (kH S 17) rfl y (show kK S 17 < lim 17 by rw [k17, lim_17]; omega) H) (cwV 1 htu hU_X4_73 rfl rfl rfl (by decide +kernel) ⟨Nat.le_of_ble_eq_true rfl, Nat.le_of_ble_eq_true rfl⟩) hP hK hD hC hpp (c_hd rfl (cw_row (lt35 (by decide)))) rfl rfl hl.1 rfl (lv_room (Nat.le_of_ble_eq_true rfl)) dX4_wasAsked_75) hS hD hh hpp (fun S_7 H locs hw_8 hP hD hS hC hh hs_9 hpp => ?_)
    try dsimp only at hw_8
    have aw_10 : AW [17] [] S S_7 := (by obtain ⟨_, _, _, h9, -, -⟩ := hw_8; rw [h9]; exact AW.u (by decide))
    have aw_10t : AW [16, 17, 18] [] S S_7 := AW.rf.tr (aw_10.mono (by decide) (by decide))
    have kk_11 : kK S_7 6 = T := (aw_10.2.1 6 (lt35 (by decide)) (by decide)).2.trans k6
    have kk_12 : kK S_7 7 = T := (aw_10.2.1 7 (lt35 (by decide)) (by decide)).2.trans k7
    have kk_13 : kK S_7 8 = T := (aw_10.2.1 8 (lt35 (by decide)) (by decide)).2.trans k8
    have kk_14 : kK S_7 9 = T := (aw_10.2.1 9 (lt35 (by decide)) (by decide)).2.trans k9
    have kk_15 : kK S_7 16 = T := (aw_10.2.1 16 (lt35 (by decide)) (by decide)).2.trans k16
    have kk_16 : kK S_7 14 = V := (aw_10.2.1 14 (lt35 (by decide)) (by decide)).2.trans k14
    have kk_17 : kK S_7 10 = X := (aw_10.2.1 10 (lt35 (by decide)) (by decide)).2.trans k10
    have kk_18 : kK S_7 11 = X := (aw_10.2.1 11 (lt35 (by decide)) (by decide)).2.trans k11
    have kk_19 : kK S_7 12 = Y := (aw_10.2.1 12 (lt35 (by decide)) (by decide)).2.trans k12
    have kk_20 : kK S_7 13 = Y := (aw_10.2.1 13 (lt35 (by decide)) (by decide)).2.trans k13
    have kk_21 : kK S_7 18 = Z := (aw_10.2.1 18 (lt35 (by decide)) (by decide)).2.trans k18
    obtain ⟨ad_22n, ad_22q, ad_22g, ad_22u, ad_221, ad_222⟩ := hw_8
    have kk_23 : kK S_7 17 = Z + 1 := by rw [ad_22u]; exact uR_K.trans (congrArg (· + 1) k17)
    refine lv_aload_n hx hb dX4_wasAsked_78 rfl (lv_at hl 0 rfl) ?_
    refine va_get (D := gD G) (ci := 4) (v := .ref (kH S 18)) (C := RX4) (T := TX4) (N := 14) hx hb htu cu_in4 hown hK hP 2 cw_2 rfl 13 (by decide) (htu _ C_79) (fun _ h9 => h9) (c_hv (hh.2 18 (lt35 (by decide)))) dX4_wasAsked_79 ?_
    refine lv_iload hx hb dX4_wasAsked_82 (lv_at hl 4 rfl) ?_
    have hC0 := hC
    refine c_cv (c_runV (As := [.int r_1]) (rest := []) (q0 := (2 * 18 + 13)) (ci := 0) ⟨hx, hb, hml, hown, htu⟩ (c_addA l G S_7 18 (lt35 (by decide)) hC (kH S 18) (hh.2 18 (lt35 (by decide))) r_1 (show kK S_7 18 < lim 18 by rw [kk_21, lim_18]; omega) H) (cwV 1 htu hU_X4_73 rfl rfl rfl (by decide +kernel) ⟨Nat.le_of_ble_eq_true rfl, Nat.le_of_ble_eq_true rfl⟩) hP hK hD hC hpp (c_hd (hh.2 18 (lt35 (by decide))) (cw_row (lt35 (by decide)))) rfl rfl hl.1 rfl (lv_room (Nat.le_of_ble_eq_true rfl)) dX4_wasAsked_84) hS hD hh hpp (fun S_25 H locs hw_26 hP hD hS hC hh hs_27 hpp => ?_)
    try dsimp only at hw_26
    have aw_28 : AW [18] [] S_7 S_25 := (by obtain ⟨_, _, _, h9, -, -⟩ := hw_26; rw [h9]; exact AW.u (by decide))
    have aw_28t : AW [16, 17, 18] [] S S_25 := aw_10t.tr (aw_28.mono (by decide) (by decide))
    have kk_29 : kK S_25 6 = T := (aw_28.2.1 6 (lt35 (by decide)) (by decide)).2.trans kk_11
    have kk_30 : kK S_25 7 = T := (aw_28.2.1 7 (lt35 (by decide)) (by decide)).2.trans kk_12
    have kk_31 : kK S_25 8 = T := (aw_28.2.1 8 (lt35 (by decide)) (by decide)).2.trans kk_13
    have kk_32 : kK S_25 9 = T := (aw_28.2.1 9 (lt35 (by decide)) (by decide)).2.trans kk_14
    have kk_33 : kK S_25 16 = T := (aw_28.2.1 16 (lt35 (by decide)) (by decide)).2.trans kk_15
    have kk_34 : kK S_25 14 = V := (aw_28.2.1 14 (lt35 (by decide)) (by decide)).2.trans kk_16
    have kk_35 : kK S_25 10 = X := (aw_28.2.1 10 (lt35 (by decide)) (by decide)).2.trans kk_17
    have kk_36 : kK S_25 11 = X := (aw_28.2.1 11 (lt35 (by decide)) (by decide)).2.trans kk_18
    have kk_37 : kK S_25 12 = Y := (aw_28.2.1 12 (lt35 (by decide)) (by decide)).2.trans kk_19
    have kk_38 : kK S_25 13 = Y := (aw_28.2.1 13 (lt35 (by decide)) (by decide)).2.trans kk_20
    have kk_39 : kK S_25 17 = Z + 1 := (aw_28.2.1 17 (lt35 (by decide)) (by decide)).2.trans kk_23
    obtain ⟨ad_40n, ad_40q, ad_40g, ad_40u, ad_401, ad_402⟩ := hw_26
    have kk_41 : kK S_25 18 = Z + 1 := by rw [ad_40u]; exact uR_K.trans (congrArg (· + 1) kk_21)
    refine lv_aload_n hx hb dX4_wasAsked_87 rfl (lv_at hl 0 rfl) ?_
    refine va_get (D := gD G) (ci := 4) (v := .ref (kH S 16)) (C := RX4) (T := TX4) (N := 14) hx hb htu cu_in4 hown hK hP 2 cw_2 rfl 11 (by decide) (htu _ C_77) (fun _ h9 => h9) (c_hv (hh.2 16 (lt35 (by decide)))) dX4_wasAsked_88 ?_
    refine lv_iload_n hx hb dX4_wasAsked_91 rfl (lv_at hl 1 rfl) ?_
    refine lv_iload_n hx hb dX4_wasAsked_92 rfl (lv_at hl 3 rfl) ?_
    have hC0 := hC
    refine c_cv (c_runV (As := [.int x, .int (nI Z)]) (rest := []) (q0 := (2 * 16 + 13)) (ci := 0) ⟨hx, hb, hml, hown, htu⟩ (c_setA l G S_25 16 (lt35 (by decide)) hC (kH S 16) (hh.2 16 (lt35 (by decide))) x (nI Z) H) (cwV 2 htu hU_X4_101 rfl rfl rfl (by decide +kernel) ⟨Nat.le_of_ble_eq_true rfl, Nat.le_of_ble_eq_true rfl⟩) hP hK hD hC hpp (c_hd (hh.2 16 (lt35 (by decide))) (cw_row (lt35 (by decide)))) rfl rfl hl.1 rfl (lv_room (Nat.le_of_ble_eq_true rfl)) dX4_wasAsked_93) hS hD hh hpp (fun S_43 H locs hw_44 hP hD hS hC hh hs_45 hpp => ?_)
    try dsimp only at hw_44
    have aw_46 : AW [16] [] S_25 S_43 := (by rw [hw_44]; exact AW.u (by decide))
    have aw_46t : AW [16, 17, 18] [] S S_43 := aw_28t.tr (aw_46.mono (by decide) (by decide))
    have kk_47 : kK S_43 6 = T := (aw_46.2.1 6 (lt35 (by decide)) (by decide)).2.trans kk_29
    have kk_48 : kK S_43 7 = T := (aw_46.2.1 7 (lt35 (by decide)) (by decide)).2.trans kk_30
    have kk_49 : kK S_43 8 = T := (aw_46.2.1 8 (lt35 (by decide)) (by decide)).2.trans kk_31
    have kk_50 : kK S_43 9 = T := (aw_46.2.1 9 (lt35 (by decide)) (by decide)).2.trans kk_32
    have kk_51 : kK S_43 14 = V := (aw_46.2.1 14 (lt35 (by decide)) (by decide)).2.trans kk_34
    have kk_52 : kK S_43 10 = X := (aw_46.2.1 10 (lt35 (by decide)) (by decide)).2.trans kk_35
    have kk_53 : kK S_43 11 = X := (aw_46.2.1 11 (lt35 (by decide)) (by decide)).2.trans kk_36
    have kk_54 : kK S_43 12 = Y := (aw_46.2.1 12 (lt35 (by decide)) (by decide)).2.trans kk_37
    have kk_55 : kK S_43 13 = Y := (aw_46.2.1 13 (lt35 (by decide)) (by decide)).2.trans kk_38
    have kk_56 : kK S_43 17 = Z + 1 := (aw_46.2.1 17 (lt35 (by decide)) (by decide)).2.trans kk_39
    have kk_57 : kK S_43 18 = Z + 1 := (aw_46.2.1 18 (lt35 (by decide)) (by decide)).2.trans kk_41
    have kk_58 : kK S_43 16 = T := by rw [hw_44]; exact uR_K.trans kk_33
    refine lv_iconst (v := 0) hx hb dX4_wasAsked_96 (by decide) ?_
    exact c_zret (v := 0) hx hb hr hK hP hD hS hC hh hpp rfl ⟨aw_46t, (Or.inr ⟨rfl, hY.las aw_46t kk_58 kk_56 kk_57⟩)⟩ dX4_wasAsked_97 hlocks
  · intro j ih9 H locs k sl g hI
    obtain ⟨pl, i, ls, hp0, rfl, rfl, hP, hD, hS, hl, rfl⟩ := hI
    refine lv_iload hx hb dX4_wasAsked_25 (lv_at hl 6 rfl) ?_
    refine lv_iload_n hx hb dX4_wasAsked_27 rfl (lv_at hl 3 rfl) ?_
    refine lv_icmp_ge (tgt := 70) hx hb dX4_wasAsked_28 (by decide) (fun c_59 => absurd c_59 (nI_ge (by omega) (by omega))) (fun c_59 => ?_)
    refine lv_iload hx hb dX4_wasAsked_31 (lv_at hl 5 rfl) ?_
    refine lv_bipush (v := (-9)) hx hb dX4_wasAsked_33 (by decide) ?_
    refine lv_icmp_eq (tgt := 70) hx hb dX4_wasAsked_35 (by decide) (fun c_60 => ?_) (fun c_60 => ?_)
    · skip
      refine lv_aload_n hx hb dX4_wasAsked_70 rfl (lv_at hl 0 rfl) ?_
      refine va_get (D := gD G) (ci := 4) (v := .ref (kH S 17)) (C := RX4) (T := TX4) (N := 14) hx hb htu cu_in4 hown hK hP 2 cw_2 rfl 12 (by decide) (htu _ C_78) (fun _ h9 => h9) rfl dX4_wasAsked_71 ?_
      refine lv_iload_n hx hb dX4_wasAsked_74 rfl (lv_at hl 2 rfl) ?_
      have hC0 := hC
      refine c_cv (c_runV (As := [.int y]) (rest := []) (q0 := (2 * 17 + 13)) (ci := 0) ⟨hx, hb, hml, hown, htu⟩ (c_addA l G S 17 (lt35 (by decide)) hC (kH S 17) rfl y (show kK S 17 < lim 17 by rw [k17, lim_17]; omega) H) (cwV 1 htu hU_X4_73 rfl rfl rfl (by decide +kernel) ⟨Nat.le_of_ble_eq_true rfl, Nat.le_of_ble_eq_true rfl⟩) hP hK hD hC hpp (c_hd rfl (cw_row (lt35 (by decide)))) rfl rfl hl.1 rfl (lv_room (Nat.le_of_ble_eq_true rfl)) dX4_wasAsked_75) hS hD hh hpp (fun S_62 H locs hw_63 hP hD hS hC hh hs_64 hpp => ?_)
      try dsimp only at hw_63
      have aw_65 : AW [17] [] S S_62 := (by obtain ⟨_, _, _, h9, -, -⟩ := hw_63; rw [h9]; exact AW.u (by decide))
      have aw_65t : AW [16, 17, 18] [] S S_62 := AW.rf.tr (aw_65.mono (by decide) (by decide))
      have kk_66 : kK S_62 6 = T := (aw_65.2.1 6 (lt35 (by decide)) (by decide)).2.trans k6
      have kk_67 : kK S_62 7 = T := (aw_65.2.1 7 (lt35 (by decide)) (by decide)).2.trans k7
      have kk_68 : kK S_62 8 = T := (aw_65.2.1 8 (lt35 (by decide)) (by decide)).2.trans k8
      have kk_69 : kK S_62 9 = T := (aw_65.2.1 9 (lt35 (by decide)) (by decide)).2.trans k9
      have kk_70 : kK S_62 16 = T := (aw_65.2.1 16 (lt35 (by decide)) (by decide)).2.trans k16
      have kk_71 : kK S_62 14 = V := (aw_65.2.1 14 (lt35 (by decide)) (by decide)).2.trans k14
      have kk_72 : kK S_62 10 = X := (aw_65.2.1 10 (lt35 (by decide)) (by decide)).2.trans k10
      have kk_73 : kK S_62 11 = X := (aw_65.2.1 11 (lt35 (by decide)) (by decide)).2.trans k11
      have kk_74 : kK S_62 12 = Y := (aw_65.2.1 12 (lt35 (by decide)) (by decide)).2.trans k12
      have kk_75 : kK S_62 13 = Y := (aw_65.2.1 13 (lt35 (by decide)) (by decide)).2.trans k13
      have kk_76 : kK S_62 18 = Z := (aw_65.2.1 18 (lt35 (by decide)) (by decide)).2.trans k18
      obtain ⟨ad_77n, ad_77q, ad_77g, ad_77u, ad_771, ad_772⟩ := hw_63
      have kk_78 : kK S_62 17 = Z + 1 := by rw [ad_77u]; exact uR_K.trans (congrArg (· + 1) k17)
      refine lv_aload_n hx hb dX4_wasAsked_78 rfl (lv_at hl 0 rfl) ?_
      refine va_get (D := gD G) (ci := 4) (v := .ref (kH S 18)) (C := RX4) (T := TX4) (N := 14) hx hb htu cu_in4 hown hK hP 2 cw_2 rfl 13 (by decide) (htu _ C_79) (fun _ h9 => h9) (c_hv (hh.2 18 (lt35 (by decide)))) dX4_wasAsked_79 ?_
      refine lv_iload hx hb dX4_wasAsked_82 (lv_at hl 4 rfl) ?_
      have hC0 := hC
      refine c_cv (c_runV (As := [.int r_1]) (rest := []) (q0 := (2 * 18 + 13)) (ci := 0) ⟨hx, hb, hml, hown, htu⟩ (c_addA l G S_62 18 (lt35 (by decide)) hC (kH S 18) (hh.2 18 (lt35 (by decide))) r_1 (show kK S_62 18 < lim 18 by rw [kk_76, lim_18]; omega) H) (cwV 1 htu hU_X4_73 rfl rfl rfl (by decide +kernel) ⟨Nat.le_of_ble_eq_true rfl, Nat.le_of_ble_eq_true rfl⟩) hP hK hD hC hpp (c_hd (hh.2 18 (lt35 (by decide))) (cw_row (lt35 (by decide)))) rfl rfl hl.1 rfl (lv_room (Nat.le_of_ble_eq_true rfl)) dX4_wasAsked_84) hS hD hh hpp (fun S_80 H locs hw_81 hP hD hS hC hh hs_82 hpp => ?_)
      try dsimp only at hw_81
      have aw_83 : AW [18] [] S_62 S_80 := (by obtain ⟨_, _, _, h9, -, -⟩ := hw_81; rw [h9]; exact AW.u (by decide))
      have aw_83t : AW [16, 17, 18] [] S S_80 := aw_65t.tr (aw_83.mono (by decide) (by decide))
      have kk_84 : kK S_80 6 = T := (aw_83.2.1 6 (lt35 (by decide)) (by decide)).2.trans kk_66
      have kk_85 : kK S_80 7 = T := (aw_83.2.1 7 (lt35 (by decide)) (by decide)).2.trans kk_67
      have kk_86 : kK S_80 8 = T := (aw_83.2.1 8 (lt35 (by decide)) (by decide)).2.trans kk_68
      have kk_87 : kK S_80 9 = T := (aw_83.2.1 9 (lt35 (by decide)) (by decide)).2.trans kk_69
      have kk_88 : kK S_80 16 = T := (aw_83.2.1 16 (lt35 (by decide)) (by decide)).2.trans kk_70
      have kk_89 : kK S_80 14 = V := (aw_83.2.1 14 (lt35 (by decide)) (by decide)).2.trans kk_71
      have kk_90 : kK S_80 10 = X := (aw_83.2.1 10 (lt35 (by decide)) (by decide)).2.trans kk_72
      have kk_91 : kK S_80 11 = X := (aw_83.2.1 11 (lt35 (by decide)) (by decide)).2.trans kk_73
      have kk_92 : kK S_80 12 = Y := (aw_83.2.1 12 (lt35 (by decide)) (by decide)).2.trans kk_74
      have kk_93 : kK S_80 13 = Y := (aw_83.2.1 13 (lt35 (by decide)) (by decide)).2.trans kk_75
      have kk_94 : kK S_80 17 = Z + 1 := (aw_83.2.1 17 (lt35 (by decide)) (by decide)).2.trans kk_78
      obtain ⟨ad_95n, ad_95q, ad_95g, ad_95u, ad_951, ad_952⟩ := hw_81
      have kk_96 : kK S_80 18 = Z + 1 := by rw [ad_95u]; exact uR_K.trans (congrArg (· + 1) kk_76)
      refine lv_aload_n hx hb dX4_wasAsked_87 rfl (lv_at hl 0 rfl) ?_
      refine va_get (D := gD G) (ci := 4) (v := .ref (kH S 16)) (C := RX4) (T := TX4) (N := 14) hx hb htu cu_in4 hown hK hP 2 cw_2 rfl 11 (by decide) (htu _ C_77) (fun _ h9 => h9) (c_hv (hh.2 16 (lt35 (by decide)))) dX4_wasAsked_88 ?_
      refine lv_iload_n hx hb dX4_wasAsked_91 rfl (lv_at hl 1 rfl) ?_
      refine lv_iload_n hx hb dX4_wasAsked_92 rfl (lv_at hl 3 rfl) ?_
      have hC0 := hC
      refine c_cv (c_runV (As := [.int x, .int (nI Z)]) (rest := []) (q0 := (2 * 16 + 13)) (ci := 0) ⟨hx, hb, hml, hown, htu⟩ (c_setA l G S_80 16 (lt35 (by decide)) hC (kH S 16) (hh.2 16 (lt35 (by decide))) x (nI Z) H) (cwV 2 htu hU_X4_101 rfl rfl rfl (by decide +kernel) ⟨Nat.le_of_ble_eq_true rfl, Nat.le_of_ble_eq_true rfl⟩) hP hK hD hC hpp (c_hd (hh.2 16 (lt35 (by decide))) (cw_row (lt35 (by decide)))) rfl rfl hl.1 rfl (lv_room (Nat.le_of_ble_eq_true rfl)) dX4_wasAsked_93) hS hD hh hpp (fun S_98 H locs hw_99 hP hD hS hC hh hs_100 hpp => ?_)
      try dsimp only at hw_99
      have aw_101 : AW [16] [] S_80 S_98 := (by rw [hw_99]; exact AW.u (by decide))
      have aw_101t : AW [16, 17, 18] [] S S_98 := aw_83t.tr (aw_101.mono (by decide) (by decide))
      have kk_102 : kK S_98 6 = T := (aw_101.2.1 6 (lt35 (by decide)) (by decide)).2.trans kk_84
      have kk_103 : kK S_98 7 = T := (aw_101.2.1 7 (lt35 (by decide)) (by decide)).2.trans kk_85
      have kk_104 : kK S_98 8 = T := (aw_101.2.1 8 (lt35 (by decide)) (by decide)).2.trans kk_86
      have kk_105 : kK S_98 9 = T := (aw_101.2.1 9 (lt35 (by decide)) (by decide)).2.trans kk_87
      have kk_106 : kK S_98 14 = V := (aw_101.2.1 14 (lt35 (by decide)) (by decide)).2.trans kk_89
      have kk_107 : kK S_98 10 = X := (aw_101.2.1 10 (lt35 (by decide)) (by decide)).2.trans kk_90
      have kk_108 : kK S_98 11 = X := (aw_101.2.1 11 (lt35 (by decide)) (by decide)).2.trans kk_91
      have kk_109 : kK S_98 12 = Y := (aw_101.2.1 12 (lt35 (by decide)) (by decide)).2.trans kk_92
      have kk_110 : kK S_98 13 = Y := (aw_101.2.1 13 (lt35 (by decide)) (by decide)).2.trans kk_93
      have kk_111 : kK S_98 17 = Z + 1 := (aw_101.2.1 17 (lt35 (by decide)) (by decide)).2.trans kk_94
      have kk_112 : kK S_98 18 = Z + 1 := (aw_101.2.1 18 (lt35 (by decide)) (by decide)).2.trans kk_96
      have kk_113 : kK S_98 16 = T := by rw [hw_99]; exact uR_K.trans kk_88
      refine lv_iconst (v := 0) hx hb dX4_wasAsked_96 (by decide) ?_
      exact c_zret (v := 0) hx hb hr hK hP hD hS hC hh hpp rfl ⟨aw_101t, (Or.inr ⟨rfl, hY.las aw_101t kk_113 kk_111 kk_112⟩)⟩ dX4_wasAsked_97 hlocks
    · skip
      refine lv_aload_n hx hb dX4_wasAsked_38 rfl (lv_at hl 0 rfl) ?_
      refine va_get (D := gD G) (ci := 4) (v := .ref (kH S 17)) (C := RX4) (T := TX4) (N := 14) hx hb htu cu_in4 hown hK hP 2 cw_2 rfl 12 (by decide) (htu _ C_78) (fun _ h9 => h9) rfl dX4_wasAsked_39 ?_
      refine lv_iload hx hb dX4_wasAsked_42 (lv_at hl 5 rfl) ?_
      have hC0 := hC
      refine c_ci (c_runV (As := [.int pl]) (rest := []) (q0 := (2 * 17 + 13)) (ci := 0) ⟨hx, hb, hml, hown, htu⟩ (c_getA l G S 17 (lt35 (by decide)) hC (kH S 17) rfl pl H) (cwV 1 htu hU_X4_89 rfl rfl rfl (by decide +kernel) ⟨Nat.le_of_ble_eq_true rfl, Nat.le_of_ble_eq_true rfl⟩) hP hK hD hC hpp (c_hd rfl (cw_row (lt35 (by decide)))) rfl rfl hl.1 rfl (lv_room (Nat.le_of_ble_eq_true rfl)) dX4_wasAsked_44) hS hD hh hpp (fun r_114 S_115 H locs hw_116 hP hD hS hC hh hs_117 hpp => ?_)
      obtain ⟨hu9, hw_116⟩ := hw_116
      have hu9 := hu9.symm
      subst hu9
      refine lv_iload_n hx hb dX4_wasAsked_47 rfl (lv_at hl 2 rfl) ?_
      refine lv_icmp_ne (tgt := 53) hx hb dX4_wasAsked_48 (by decide) (fun c_118 => ?_) (fun c_118 => ?_)
      · skip
        refine lv_aload_n hx hb dX4_wasAsked_53 rfl (lv_at hl 0 rfl) ?_
        refine va_get (D := gD G) (ci := 4) (v := .ref (kH S 18)) (C := RX4) (T := TX4) (N := 14) hx hb htu cu_in4 hown hK hP 2 cw_2 rfl 13 (by decide) (htu _ C_79) (fun _ h9 => h9) rfl dX4_wasAsked_54 ?_
        refine lv_iload hx hb dX4_wasAsked_57 (lv_at hl 5 rfl) ?_
        have hC0 := hC
        refine c_ci (c_runV (As := [.int pl]) (rest := []) (q0 := (2 * 18 + 13)) (ci := 0) ⟨hx, hb, hml, hown, htu⟩ (c_getA l G S 18 (lt35 (by decide)) hC (kH S 18) rfl pl H) (cwV 1 htu hU_X4_89 rfl rfl rfl (by decide +kernel) ⟨Nat.le_of_ble_eq_true rfl, Nat.le_of_ble_eq_true rfl⟩) hP hK hD hC hpp (c_hd rfl (cw_row (lt35 (by decide)))) rfl rfl hl.1 rfl (lv_room (Nat.le_of_ble_eq_true rfl)) dX4_wasAsked_59) hS hD hh hpp (fun r_119 S_120 H locs hw_121 hP hD hS hC hh hs_122 hpp => ?_)
        obtain ⟨hu9, hw_121⟩ := hw_121
        have hu9 := hu9.symm
        subst hu9
        refine lv_istore (lv' := [(5, .int r_119), (0, .ref (ga G 2)), (1, .int x), (2, .int y), (3, .int (nI Z)), (4, .int r_1), (6, .int (nI i))]) hx hb dX4_wasAsked_62 hl (by decide) rfl (fun ls hl => ?_)
        refine lv_iinc (v := nI (i + 1)) (lv' := [(6, .int (nI (i + 1))), (5, .int r_119), (0, .ref (ga G 2)), (1, .int x), (2, .int y), (3, .int (nI Z)), (4, .int r_1)]) hx hb dX4_wasAsked_64 hl (k := 6) rfl (nI_1 i) (by decide) rfl (fun ls hl => ?_)
        refine lv_goto (tgt := 25) hx hb dX4_wasAsked_67 (by decide) ?_
        exact ih9 _ _ _ _ _ ⟨r_119, i + 1, ls, by omega, rfl, rfl, hP, hD, hS, lv_sub hl [2, 3, 4, 5, 6, 1, 0] rfl, rfl⟩
      · skip
        refine lv_iconst (v := 1) hx hb dX4_wasAsked_51 (by decide) ?_
        exact c_zret (v := 1) hx hb hr hK hP hD hS hC hh hpp rfl ⟨AW.rf, (Or.inl ⟨rfl, rfl⟩)⟩ dX4_wasAsked_52 hlocks

set_option maxHeartbeats 4000000 in
set_option maxRecDepth 100000 in
/-- addRecord -/
theorem y_addRecord (l : Launch) (G : cG) (S : cS) (T : Nat) (V : Nat) (VP : Nat) (X : Nat) (Y : Nat) (Z : Nat) (fr : Nat) (hC : CL S) (hY : TY S T V VP X Y Z) (hfr : fr ≤ Y) (hw6 : Y ≤ fr + 6) (hY0 : Y ≤ 1000) (Hs : Heap) : Met l yX4_addRecord (wC yX4_addRecord cX4_addRecord 6 (some .int)) (cRm S 4 128) (cPc G S Hs [.ref (ga G 2), .int (nI fr)]) (cQi G S Hs (fun v u => AW [6, 7, 8, 9, 16, 10, 11, 12, 13] [] S u ∧ ((v = -6 ∧ u = S) ∨ (v = nI T ∧ T < 602 ∧ TY u (T + 1) V VP (X + (Y - fr)) fr Z ∧ OC S u T)))) (CC - PT S) (12 * (CC - PT S)) (cA G S Hs.size) := by
  refine Met.ofW (cc := cX4_addRecord) (maxL := 6) (ret := (some .int)) (by decide) rfl ?_
  intro p e s m args below meth c s₁ B hml hv
  obtain ⟨rfl, hsz, hP, hK, hD0, -⟩ := hv
  have hx := B.exec
  have hb := B.bytes
  have hr := B.returns
  have htu : ∀ w ∈ CU, w.before _ s = true := fun w h => atoms_spec (ws := (wC yX4_addRecord cX4_addRecord 6 (some .int))) B.pre w (List.mem_cons_of_mem _ h)
  have hown : s.vm.findClass RX4 = some m.cls := findClass_of_methodNamed B.named
  have hlocks := B.notSynchronized
  subst hsz
  have hD : cD (cA G S s.heap.size) G S := cD_self hD0
  have hl := lv_entry ([.ref (ga G 2), .int (nI fr)]) (n := 6) (Nat.le_of_ble_eq_true rfl)
  rw [lg_entry_eq]
  generalize (lg_sl ([.ref (ga G 2), .int (nI fr)]) ++ List.replicate (6 - (lg_sl ([.ref (ga G 2), .int (nI fr)])).length) Slot.unset).toArray = ls at hl ⊢
  have hl : lv_has ls 6 [(0, .ref (ga G 2)), (1, .int (nI fr))] := hl
  obtain ⟨H, hHe⟩ : ∃ H : Heap, H = s.heap := ⟨_, rfl⟩
  rw [← hHe] at hP
  have hS : va_S (cA G S s.heap.size) s.heap H [] := by rw [hHe]; exact va_S.rf
  have hh : HS S S := HS.rf
  have hpp : PT S ≤ PT S := Nat.le_refl _
  have hB9 := hC.1
  refine W.heq hHe ?_
  refine c_ent (S := S) ?_
  obtain ⟨⟨k6, k7, k8, k9, k16, k14, k10, k11, k12, k13, k17, k18⟩, ⟨tT, tV, tB, tX⟩, tv, tr, ts⟩ := id hY
  refine lv_iconst (v := 0) hx hb dX4_addRecord_0 (by decide) ?_
  refine lv_istore_n (lv' := [(2, .int 0), (0, .ref (ga G 2)), (1, .int (nI fr))]) hx hb dX4_addRecord_1 rfl hl (by decide) rfl (fun ls hl => ?_)
  refine lv_aload_n hx hb dX4_addRecord_2 rfl (lv_at hl 1 rfl) ?_
  refine va_get (D := gD G) (ci := 4) (v := .ref (kH S 13)) (C := RX4) (T := TX4) (N := 14) hx hb htu cu_in4 hown hK hP 2 cw_2 rfl 7 (by decide) (htu _ C_73) (fun _ h9 => h9) rfl dX4_addRecord_3 ?_
  refine va_get (D := gD G) (ci := 0) (v := .int (nI Y)) (C := RX0) (T := TX0) (N := 2) hx hb htu cu_in0 hown hK hP (2 * 13 + 13) (c_hd rfl (cw_row (lt35 (by decide)))) rfl 1 (by decide) (htu _ C_94) (fun _ h9 => h9) (m_v (congrArg nI k13)) dX4_addRecord_6 ?_
  refine lv_istore_n (lv' := [(3, .int (nI Y)), (2, .int 0), (0, .ref (ga G 2)), (1, .int (nI fr))]) hx hb dX4_addRecord_9 rfl hl (by decide) rfl (fun ls hl => ?_)
  refine lv_iload_n hx hb dX4_addRecord_10 rfl (lv_at hl 3 rfl) ?_
  refine lv_istore (lv' := [(4, .int (nI fr)), (3, .int (nI Y)), (2, .int 0), (0, .ref (ga G 2)), (1, .int (nI fr))]) hx hb dX4_addRecord_11 hl (by decide) rfl (fun ls hl => ?_)
  refine w_loop (fun j H locs k sl g => ∃ (lv : Int32) (i : Nat) (ls : Array Slot), i + j = Y ∧ k = PT S - PT S ∧ sl = 12 * (PT S - PT S) ∧ cP G S H ∧ cD (cA G S s.heap.size) G S ∧ va_S (cA G S s.heap.size) s.heap H locs ∧ lv_has ls 6 [(0, .ref (ga G 2)), (1, .int (nI fr)), (2, .int lv), (3, .int (nI Y)), (4, .int (nI i))] ∧ g = F0 m 13 ls []) ?_ ?_ ((Y - fr)) _ _ _ _ _ ⟨0, fr, ls, by omega, rfl, rfl, hP, hD, hS, lv_sub hl [3, 4, 2, 1, 0] rfl, rfl⟩
  · intro H locs k sl g hI
    obtain ⟨lv, i, ls, hp0, rfl, rfl, hP, hD, hS, hl, rfl⟩ := hI
    refine lv_iload hx hb dX4_addRecord_13 (lv_at hl 4 rfl) ?_
    refine lv_iload_n hx hb dX4_addRecord_15 rfl (lv_at hl 3 rfl) ?_
    refine lv_icmp_ge (tgt := 43) hx hb dX4_addRecord_16 (by decide) (fun c_1 => ?_) (fun c_1 => absurd (nI_le (by omega) (by omega)) c_1)
    refine lv_aload_n hx hb dX4_addRecord_43 rfl (lv_at hl 0 rfl) ?_
    refine lv_iconst (v := 3) hx hb dX4_addRecord_44 (by decide) ?_
    refine lv_iload_n hx hb dX4_addRecord_45 rfl (lv_at hl 2 rfl) ?_
    refine lv_aload_n hx hb dX4_addRecord_46 rfl (lv_at hl 0 rfl) ?_
    refine va_get (D := gD G) (ci := 4) (v := .ref (kH S 11)) (C := RX4) (T := TX4) (N := 14) hx hb htu cu_in4 hown hK hP 2 cw_2 rfl 5 (by decide) (htu _ C_71) (fun _ h9 => h9) rfl dX4_addRecord_47 ?_
    refine va_get (D := gD G) (ci := 0) (v := .int (nI X)) (C := RX0) (T := TX0) (N := 2) hx hb htu cu_in0 hown hK hP (2 * 11 + 13) (c_hd rfl (cw_row (lt35 (by decide)))) rfl 1 (by decide) (htu _ C_94) (fun _ h9 => h9) (m_v (congrArg nI k11)) dX4_addRecord_50 ?_
    refine lv_iload_n hx hb dX4_addRecord_53 rfl (lv_at hl 3 rfl) ?_
    refine lv_iload_n hx hb dX4_addRecord_54 rfl (lv_at hl 1 rfl) ?_
    refine lv_isub hx hb dX4_addRecord_55 ?_
    refine m_top (y := nI (Y - fr)) (pk_sub hfr) ?_
    have hC0 := hC
    refine c_ci (c_runV (As := [.int 3, .int lv, .int (nI X), .int (nI (Y - fr))]) (rest := []) (q0 := 2) (ci := 4) ⟨hx, hb, hml, hown, htu⟩ (y_addType l G S T V VP X Y Z VP 3 lv (nI X) (nI (Y - fr)) hC hY ((Nat.le_refl _)) ((fun h => absurd h (by decide))) ((fun _ => (nI_leI (a := Y - fr) (b := 6) (by omega) (by omega)).mpr (by omega))) ((Or.inr (Or.inl rfl))) H) (cwV 4 htu hU_X4_65 rfl rfl rfl (by decide +kernel) ⟨Nat.le_of_ble_eq_true rfl, Nat.le_of_ble_eq_true rfl⟩) hP hK hD hC hpp cw_2 rfl rfl hl.1 rfl (lv_room (Nat.le_of_ble_eq_true rfl)) dX4_addRecord_56) hS hD hh hpp (fun r_2 S_3 H locs hw_4 hP hD hS hC hh hs_5 hpp => ?_)
    try dsimp only at hw_4
    have aw_6 : AW [6, 7, 8, 9, 16] [] S S_3 := hw_4.1
    have aw_6t : AW [6, 7, 8, 9, 16, 10, 11, 12, 13] [] S S_3 := AW.rf.tr (aw_6.mono (by decide) (by decide))
    have kk_7 : kK S_3 14 = V := (aw_6.2.1 14 (lt35 (by decide)) (by decide)).2.trans k14
    have kk_8 : kK S_3 10 = X := (aw_6.2.1 10 (lt35 (by decide)) (by decide)).2.trans k10
    have kk_9 : kK S_3 11 = X := (aw_6.2.1 11 (lt35 (by decide)) (by decide)).2.trans k11
    have kk_10 : kK S_3 12 = Y := (aw_6.2.1 12 (lt35 (by decide)) (by decide)).2.trans k12
    have kk_11 : kK S_3 13 = Y := (aw_6.2.1 13 (lt35 (by decide)) (by decide)).2.trans k13
    have kk_12 : kK S_3 17 = Z := (aw_6.2.1 17 (lt35 (by decide)) (by decide)).2.trans k17
    have kk_13 : kK S_3 18 = Z := (aw_6.2.1 18 (lt35 (by decide)) (by decide)).2.trans k18
    rcases hw_4.2 with ⟨ty_14v, ty_14s⟩ | ⟨ty_14v, ty_14t, ty_14, ty_14o, ty_144, ty_148⟩
    · skip
      subst ty_14v
      refine lv_istore (lv' := [(4, .int ((-6))), (0, .ref (ga G 2)), (1, .int (nI fr)), (2, .int lv), (3, .int (nI Y))]) hx hb dX4_addRecord_59 hl (by decide) rfl (fun ls hl => ?_)
      refine lv_iload hx hb dX4_addRecord_61 (lv_at hl 0 rfl) ?_
      refine lv_if_ge (tgt := 69) hx hb dX4_addRecord_63 (by decide) (fun c_15 => absurd c_15 (by decide)) (fun c_15 => ?_)
      refine lv_iload hx hb dX4_addRecord_66 (lv_at hl 0 rfl) ?_
      exact c_iret (v := (-6)) hx hb hr hK hP hD hS hC hh hpp ⟨aw_6t, (Or.inl ⟨rfl, ty_14s.1⟩)⟩ dX4_addRecord_68 hlocks
    · skip
      subst ty_14v
      refine lv_istore (lv' := [(4, .int (nI T)), (0, .ref (ga G 2)), (1, .int (nI fr)), (2, .int lv), (3, .int (nI Y))]) hx hb dX4_addRecord_59 hl (by decide) rfl (fun ls hl => ?_)
      refine lv_iload hx hb dX4_addRecord_61 (lv_at hl 0 rfl) ?_
      refine lv_if_ge (tgt := 69) hx hb dX4_addRecord_63 (by decide) (fun c_16 => ?_) (fun c_16 => absurd (Int32.not_lt.mp (nI_n0 (by omega))) c_16)
      refine lv_iload_n hx hb dX4_addRecord_69 rfl (lv_at hl 2 rfl) ?_
      refine lv_istore (lv' := [(5, .int (nI fr)), (4, .int (nI T)), (0, .ref (ga G 2)), (1, .int (nI fr)), (2, .int lv), (3, .int (nI Y))]) hx hb dX4_addRecord_70 hl (by decide) rfl (fun ls hl => ?_)
      refine w_loop (fun j H locs k sl g => ∃ (S1 : cS) (q : Nat) (ls : Array Slot), CL S1 ∧ HS S S1 ∧ PT S ≤ PT S1 ∧ AW [6, 7, 8, 9, 16, 10, 11, 12, 13] [] S S1 ∧ q + j = Y - fr ∧ AW [10, 11] [] S_3 S1 ∧ kK S1 10 = X + q ∧ kK S1 11 = X + q ∧ k = PT S1 - PT S ∧ sl = 12 * (PT S1 - PT S) ∧ cP G S1 H ∧ cD (cA G S s.heap.size) G S1 ∧ va_S (cA G S s.heap.size) s.heap H locs ∧ lv_has ls 6 [(0, .ref (ga G 2)), (1, .int (nI fr)), (3, .int (nI Y)), (4, .int (nI T)), (5, .int (nI (fr + q)))] ∧ g = F0 m 72 ls []) ?_ ?_ ((Y - fr)) _ _ _ _ _ ⟨S_3, 0, ls, hC, hh, hpp, aw_6t, by omega, AW.rf, ty_14.1.2.2.2.2.2.2.1, ty_14.1.2.2.2.2.2.2.2.1, rfl, rfl, hP, hD, hS, lv_sub hl [2, 3, 5, 1, 0] rfl, rfl⟩
      · intro H locs k sl g hI
        obtain ⟨S1, q, ls, hC, hh, hpp, hAW, hp0, hp1, hp2, hp3, rfl, rfl, hP, hD, hS, hl, rfl⟩ := hI
        have t602 := ty_14t
        have y12 : kK S1 12 = Y := ((hp1.2.1 12 (lt35 (by decide)) (by decide)).2.trans ty_14.1.2.2.2.2.2.2.2.2.1)
        have y13 : kK S1 13 = Y := ((hp1.2.1 13 (lt35 (by decide)) (by decide)).2.trans ty_14.1.2.2.2.2.2.2.2.2.2.1)
        refine lv_iload hx hb dX4_addRecord_72 (lv_at hl 4 rfl) ?_
        refine lv_iload_n hx hb dX4_addRecord_74 rfl (lv_at hl 2 rfl) ?_
        refine lv_icmp_ge (tgt := 116) hx hb dX4_addRecord_75 (by decide) (fun c_17 => ?_) (fun c_17 => absurd (nI_le (by omega) (by omega)) c_17)
        refine lv_aload_n hx hb dX4_addRecord_116 rfl (lv_at hl 0 rfl) ?_
        refine va_get (D := gD G) (ci := 4) (v := .ref (kH S 12)) (C := RX4) (T := TX4) (N := 14) hx hb htu cu_in4 hown hK hP 2 cw_2 rfl 6 (by decide) (htu _ C_72) (fun _ h9 => h9) (c_hv (hh.2 12 (lt35 (by decide)))) dX4_addRecord_117 ?_
        refine lv_iload_n hx hb dX4_addRecord_120 rfl (lv_at hl 1 rfl) ?_
        have hC0 := hC
        refine c_cv (c_runV (As := [.int (nI fr)]) (rest := []) (q0 := (2 * 12 + 13)) (ci := 0) ⟨hx, hb, hml, hown, htu⟩ (c_cutA l G S1 12 (lt35 (by decide)) hC (kH S 12) (hh.2 12 (lt35 (by decide))) (nI fr) H) (cwV 1 htu hU_X4_61 rfl rfl rfl (by decide +kernel) ⟨Nat.le_of_ble_eq_true rfl, Nat.le_of_ble_eq_true rfl⟩) hP hK hD hC hpp (c_hd (hh.2 12 (lt35 (by decide))) (cw_row (lt35 (by decide)))) rfl rfl hl.1 rfl (lv_room (Nat.le_of_ble_eq_true rfl)) dX4_addRecord_121) hS hD hh hpp (fun S_19 H locs hw_20 hP hD hS hC hh hs_21 hpp => ?_)
        try dsimp only at hw_20
        have aw_22 : AW [12] [] S1 S_19 := (by rw [hw_20]; exact AW.u (by decide))
        have aw_22t : AW [6, 7, 8, 9, 16, 10, 11, 12, 13] [] S S_19 := hAW.tr (aw_22.mono (by decide) (by decide))
        have kk_23 : kK S_19 10 = X + q := (aw_22.2.1 10 (lt35 (by decide)) (by decide)).2.trans hp2
        have kk_24 : kK S_19 11 = X + q := (aw_22.2.1 11 (lt35 (by decide)) (by decide)).2.trans hp3
        have kk_25 : kK S_19 13 = Y := (aw_22.2.1 13 (lt35 (by decide)) (by decide)).2.trans y13
        have kk_26 : kK S_19 12 = fr := by rw [hw_20]; exact uR_K.trans (rcut_le2 (by rw [y12]; omega) (by rw [y12]; omega))
        refine lv_aload_n hx hb dX4_addRecord_124 rfl (lv_at hl 0 rfl) ?_
        refine va_get (D := gD G) (ci := 4) (v := .ref (kH S 13)) (C := RX4) (T := TX4) (N := 14) hx hb htu cu_in4 hown hK hP 2 cw_2 rfl 7 (by decide) (htu _ C_73) (fun _ h9 => h9) (c_hv (hh.2 13 (lt35 (by decide)))) dX4_addRecord_125 ?_
        refine lv_iload_n hx hb dX4_addRecord_128 rfl (lv_at hl 1 rfl) ?_
        have hC0 := hC
        refine c_cv (c_runV (As := [.int (nI fr)]) (rest := []) (q0 := (2 * 13 + 13)) (ci := 0) ⟨hx, hb, hml, hown, htu⟩ (c_cutA l G S_19 13 (lt35 (by decide)) hC (kH S 13) (hh.2 13 (lt35 (by decide))) (nI fr) H) (cwV 1 htu hU_X4_61 rfl rfl rfl (by decide +kernel) ⟨Nat.le_of_ble_eq_true rfl, Nat.le_of_ble_eq_true rfl⟩) hP hK hD hC hpp (c_hd (hh.2 13 (lt35 (by decide))) (cw_row (lt35 (by decide)))) rfl rfl hl.1 rfl (lv_room (Nat.le_of_ble_eq_true rfl)) dX4_addRecord_129) hS hD hh hpp (fun S_28 H locs hw_29 hP hD hS hC hh hs_30 hpp => ?_)
        try dsimp only at hw_29
        have aw_31 : AW [13] [] S_19 S_28 := (by rw [hw_29]; exact AW.u (by decide))
        have aw_31t : AW [6, 7, 8, 9, 16, 10, 11, 12, 13] [] S S_28 := aw_22t.tr (aw_31.mono (by decide) (by decide))
        have kk_32 : kK S_28 10 = X + q := (aw_31.2.1 10 (lt35 (by decide)) (by decide)).2.trans kk_23
        have kk_33 : kK S_28 11 = X + q := (aw_31.2.1 11 (lt35 (by decide)) (by decide)).2.trans kk_24
        have kk_34 : kK S_28 12 = fr := (aw_31.2.1 12 (lt35 (by decide)) (by decide)).2.trans kk_26
        have kk_35 : kK S_28 13 = fr := by rw [hw_29]; exact uR_K.trans (rcut_le2 (by rw [kk_25]; omega) (by rw [kk_25]; omega))
        refine lv_iload hx hb dX4_addRecord_132 (lv_at hl 3 rfl) ?_
        have aw9 : AW [10, 11, 12, 13] [] S_3 S_28 := (((hp1.mono (rs' := [10, 11, 12, 13]) (by decide) (by decide)).tr (aw_22.mono (by decide) (by decide))).tr (aw_31.mono (by decide) (by decide)))
        have eq9 : X + q = X + (Y - fr) := by rw [show q = Y - fr by omega]
        have x17 : kK S_28 17 = Z := ((aw9).2.1 17 (lt35 (by decide)) (by decide)).2.trans ty_14.1.2.2.2.2.2.2.2.2.2.2.1
        have x18 : kK S_28 18 = Z := ((aw9).2.1 18 (lt35 (by decide)) (by decide)).2.trans ty_14.1.2.2.2.2.2.2.2.2.2.2.2
        have fin : TY S_28 (T + 1) V VP (X + (Y - fr)) fr Z := ty_14.put aw9 (by decide) (kk_32.trans eq9) (kk_33.trans eq9) kk_34 kk_35 x17 x18 (by omega)
        exact c_iret (v := nI T) hx hb hr hK hP hD hS hC hh hpp ⟨aw_31t, (Or.inr ⟨rfl, t602, fin, ty_14o.tr (T' := T) (OC.aw aw9 (by decide)) (Nat.le_refl _)⟩)⟩ dX4_addRecord_134 hlocks
      · intro j ih9 H locs k sl g hI
        obtain ⟨S1, q, ls, hC, hh, hpp, hAW, hp0, hp1, hp2, hp3, rfl, rfl, hP, hD, hS, hl, rfl⟩ := hI
        have t602 := ty_14t
        have y12 : kK S1 12 = Y := ((hp1.2.1 12 (lt35 (by decide)) (by decide)).2.trans ty_14.1.2.2.2.2.2.2.2.2.1)
        have y13 : kK S1 13 = Y := ((hp1.2.1 13 (lt35 (by decide)) (by decide)).2.trans ty_14.1.2.2.2.2.2.2.2.2.2.1)
        refine lv_iload hx hb dX4_addRecord_72 (lv_at hl 4 rfl) ?_
        refine lv_iload_n hx hb dX4_addRecord_74 rfl (lv_at hl 2 rfl) ?_
        refine lv_icmp_ge (tgt := 116) hx hb dX4_addRecord_75 (by decide) (fun c_36 => absurd c_36 (nI_ge (by omega) (by omega))) (fun c_36 => ?_)
        refine lv_aload_n hx hb dX4_addRecord_78 rfl (lv_at hl 0 rfl) ?_
        refine va_get (D := gD G) (ci := 4) (v := .ref (kH S 10)) (C := RX4) (T := TX4) (N := 14) hx hb htu cu_in4 hown hK hP 2 cw_2 rfl 4 (by decide) (htu _ C_70) (fun _ h9 => h9) (c_hv (hh.2 10 (lt35 (by decide)))) dX4_addRecord_79 ?_
        refine lv_aload_n hx hb dX4_addRecord_82 rfl (lv_at hl 0 rfl) ?_
        refine va_get (D := gD G) (ci := 4) (v := .ref (kH S 12)) (C := RX4) (T := TX4) (N := 14) hx hb htu cu_in4 hown hK hP 2 cw_2 rfl 6 (by decide) (htu _ C_72) (fun _ h9 => h9) (c_hv (hh.2 12 (lt35 (by decide)))) dX4_addRecord_83 ?_
        refine lv_iload hx hb dX4_addRecord_86 (lv_at hl 4 rfl) ?_
        have hC0 := hC
        refine c_ci (c_runV (As := [.int (nI (fr + q))]) (rest := [.ref (kH S 10)]) (q0 := (2 * 12 + 13)) (ci := 0) ⟨hx, hb, hml, hown, htu⟩ (c_getA l G S1 12 (lt35 (by decide)) hC (kH S 12) (hh.2 12 (lt35 (by decide))) (nI (fr + q)) H) (cwV 1 htu hU_X4_89 rfl rfl rfl (by decide +kernel) ⟨Nat.le_of_ble_eq_true rfl, Nat.le_of_ble_eq_true rfl⟩) hP hK hD hC hpp (c_hd (hh.2 12 (lt35 (by decide))) (cw_row (lt35 (by decide)))) rfl rfl hl.1 rfl (lv_room (Nat.le_of_ble_eq_true rfl)) dX4_addRecord_88) hS hD hh hpp (fun r_37 S_38 H locs hw_39 hP hD hS hC hh hs_40 hpp => ?_)
        obtain ⟨hu9, hw_39⟩ := hw_39
        have hu9 := hu9.symm
        subst hu9
        have hC0 := hC
        refine c_cv (c_runV (As := [.int r_37]) (rest := []) (q0 := (2 * 10 + 13)) (ci := 0) ⟨hx, hb, hml, hown, htu⟩ (c_addA l G S1 10 (lt35 (by decide)) hC (kH S 10) (hh.2 10 (lt35 (by decide))) r_37 (show kK S1 10 < lim 10 by rw [hp2, lim_10]; omega) H) (cwV 1 htu hU_X4_73 rfl rfl rfl (by decide +kernel) ⟨Nat.le_of_ble_eq_true rfl, Nat.le_of_ble_eq_true rfl⟩) hP hK hD hC hpp (c_hd (hh.2 10 (lt35 (by decide))) (cw_row (lt35 (by decide)))) rfl rfl hl.1 rfl (lv_room (Nat.le_of_ble_eq_true rfl)) dX4_addRecord_91) hS hD hh hpp (fun S_42 H locs hw_43 hP hD hS hC hh hs_44 hpp => ?_)
        try dsimp only at hw_43
        have aw_45 : AW [10] [] S1 S_42 := (by obtain ⟨_, _, _, h9, -, -⟩ := hw_43; rw [h9]; exact AW.u (by decide))
        have aw_45t : AW [6, 7, 8, 9, 16, 10, 11, 12, 13] [] S S_42 := hAW.tr (aw_45.mono (by decide) (by decide))
        have kk_46 : kK S_42 11 = X + q := (aw_45.2.1 11 (lt35 (by decide)) (by decide)).2.trans hp3
        obtain ⟨ad_47n, ad_47q, ad_47g, ad_47u, ad_471, ad_472⟩ := hw_43
        have kk_48 : kK S_42 10 = X + q + 1 := by rw [ad_47u]; exact uR_K.trans (congrArg (· + 1) hp2)
        refine lv_aload_n hx hb dX4_addRecord_94 rfl (lv_at hl 0 rfl) ?_
        refine va_get (D := gD G) (ci := 4) (v := .ref (kH S 11)) (C := RX4) (T := TX4) (N := 14) hx hb htu cu_in4 hown hK hP 2 cw_2 rfl 5 (by decide) (htu _ C_71) (fun _ h9 => h9) (c_hv (hh.2 11 (lt35 (by decide)))) dX4_addRecord_95 ?_
        refine lv_aload_n hx hb dX4_addRecord_98 rfl (lv_at hl 0 rfl) ?_
        refine va_get (D := gD G) (ci := 4) (v := .ref (kH S 13)) (C := RX4) (T := TX4) (N := 14) hx hb htu cu_in4 hown hK hP 2 cw_2 rfl 7 (by decide) (htu _ C_73) (fun _ h9 => h9) (c_hv (hh.2 13 (lt35 (by decide)))) dX4_addRecord_99 ?_
        refine lv_iload hx hb dX4_addRecord_102 (lv_at hl 4 rfl) ?_
        have hC0 := hC
        refine c_ci (c_runV (As := [.int (nI (fr + q))]) (rest := [.ref (kH S 11)]) (q0 := (2 * 13 + 13)) (ci := 0) ⟨hx, hb, hml, hown, htu⟩ (c_getA l G S_42 13 (lt35 (by decide)) hC (kH S 13) (hh.2 13 (lt35 (by decide))) (nI (fr + q)) H) (cwV 1 htu hU_X4_89 rfl rfl rfl (by decide +kernel) ⟨Nat.le_of_ble_eq_true rfl, Nat.le_of_ble_eq_true rfl⟩) hP hK hD hC hpp (c_hd (hh.2 13 (lt35 (by decide))) (cw_row (lt35 (by decide)))) rfl rfl hl.1 rfl (lv_room (Nat.le_of_ble_eq_true rfl)) dX4_addRecord_104) hS hD hh hpp (fun r_49 S_50 H locs hw_51 hP hD hS hC hh hs_52 hpp => ?_)
        obtain ⟨hu9, hw_51⟩ := hw_51
        have hu9 := hu9.symm
        subst hu9
        have hC0 := hC
        refine c_cv (c_runV (As := [.int r_49]) (rest := []) (q0 := (2 * 11 + 13)) (ci := 0) ⟨hx, hb, hml, hown, htu⟩ (c_addA l G S_42 11 (lt35 (by decide)) hC (kH S 11) (hh.2 11 (lt35 (by decide))) r_49 (show kK S_42 11 < lim 11 by rw [kk_46, lim_11]; omega) H) (cwV 1 htu hU_X4_73 rfl rfl rfl (by decide +kernel) ⟨Nat.le_of_ble_eq_true rfl, Nat.le_of_ble_eq_true rfl⟩) hP hK hD hC hpp (c_hd (hh.2 11 (lt35 (by decide))) (cw_row (lt35 (by decide)))) rfl rfl hl.1 rfl (lv_room (Nat.le_of_ble_eq_true rfl)) dX4_addRecord_107) hS hD hh hpp (fun S_54 H locs hw_55 hP hD hS hC hh hs_56 hpp => ?_)
        try dsimp only at hw_55
        have aw_57 : AW [11] [] S_42 S_54 := (by obtain ⟨_, _, _, h9, -, -⟩ := hw_55; rw [h9]; exact AW.u (by decide))
        have aw_57t : AW [6, 7, 8, 9, 16, 10, 11, 12, 13] [] S S_54 := aw_45t.tr (aw_57.mono (by decide) (by decide))
        have kk_58 : kK S_54 10 = X + q + 1 := (aw_57.2.1 10 (lt35 (by decide)) (by decide)).2.trans kk_48
        obtain ⟨ad_59n, ad_59q, ad_59g, ad_59u, ad_591, ad_592⟩ := hw_55
        have kk_60 : kK S_54 11 = X + q + 1 := by rw [ad_59u]; exact uR_K.trans (congrArg (· + 1) kk_46)
        refine lv_iinc (v := nI (fr + q + 1)) (lv' := [(5, .int (nI (fr + q + 1))), (0, .ref (ga G 2)), (1, .int (nI fr)), (3, .int (nI Y)), (4, .int (nI T))]) hx hb dX4_addRecord_110 hl (k := 4) rfl (nI_1 (fr + q)) (by decide) rfl (fun ls hl => ?_)
        refine lv_goto (tgt := 72) hx hb dX4_addRecord_113 (by decide) ?_
        exact ih9 _ _ _ _ _ ⟨S_54, q + 1, ls, hC, hh, hpp, aw_57t, by omega, ((hp1.tr (aw_45.mono (by decide) (by decide))).tr (aw_57.mono (by decide) (by decide))), kk_58, kk_60, rfl, rfl, hP, hD, hS, lv_sub hl [1, 2, 3, 4, 0] rfl, rfl⟩
  · intro j ih9 H locs k sl g hI
    obtain ⟨lv, i, ls, hp0, rfl, rfl, hP, hD, hS, hl, rfl⟩ := hI
    refine lv_iload hx hb dX4_addRecord_13 (lv_at hl 4 rfl) ?_
    refine lv_iload_n hx hb dX4_addRecord_15 rfl (lv_at hl 3 rfl) ?_
    refine lv_icmp_ge (tgt := 43) hx hb dX4_addRecord_16 (by decide) (fun c_61 => absurd c_61 (nI_ge (by omega) (by omega))) (fun c_61 => ?_)
    refine lv_iload_n hx hb dX4_addRecord_19 rfl (lv_at hl 2 rfl) ?_
    refine lv_aload_n hx hb dX4_addRecord_20 rfl (lv_at hl 0 rfl) ?_
    refine lv_aload_n hx hb dX4_addRecord_21 rfl (lv_at hl 0 rfl) ?_
    refine va_get (D := gD G) (ci := 4) (v := .ref (kH S 13)) (C := RX4) (T := TX4) (N := 14) hx hb htu cu_in4 hown hK hP 2 cw_2 rfl 7 (by decide) (htu _ C_73) (fun _ h9 => h9) rfl dX4_addRecord_22 ?_
    refine lv_iload hx hb dX4_addRecord_25 (lv_at hl 4 rfl) ?_
    have hC0 := hC
    refine c_ci (c_runV (As := [.int (nI i)]) (rest := [.ref (ga G 2), .int lv]) (q0 := (2 * 13 + 13)) (ci := 0) ⟨hx, hb, hml, hown, htu⟩ (c_getA l G S 13 (lt35 (by decide)) hC (kH S 13) rfl (nI i) H) (cwV 1 htu hU_X4_89 rfl rfl rfl (by decide +kernel) ⟨Nat.le_of_ble_eq_true rfl, Nat.le_of_ble_eq_true rfl⟩) hP hK hD hC hpp (c_hd rfl (cw_row (lt35 (by decide)))) rfl rfl hl.1 rfl (lv_room (Nat.le_of_ble_eq_true rfl)) dX4_addRecord_27) hS hD hh hpp (fun r_62 S_63 H locs hw_64 hP hD hS hC hh hs_65 hpp => ?_)
    obtain ⟨hu9, hw_64⟩ := hw_64
    have hu9 := hu9.symm
    subst hu9
    have hC0 := hC
    refine c_ci (c_runV (As := [.int r_62]) (rest := [.int lv]) (q0 := 2) (ci := 4) ⟨hx, hb, hml, hown, htu⟩ (y_levelOf l G S r_62 hC  H) (cwV 1 htu hU_X4_79 rfl rfl rfl (by decide +kernel) ⟨Nat.le_of_ble_eq_true rfl, Nat.le_of_ble_eq_true rfl⟩) hP hK hD hC hpp cw_2 rfl rfl hl.1 rfl (lv_room (Nat.le_of_ble_eq_true rfl)) dX4_addRecord_30) hS hD hh hpp (fun r_66 S_67 H locs hw_68 hP hD hS hC hh hs_69 hpp => ?_)
    obtain ⟨-, hu9, hw_68⟩ := hw_68
    have hu9 := hu9.symm
    subst hu9
    refine va_mmax hx hb (by rw [hml]; exact hl.1.symm) hown (htu _ C_338) (htu _ C_139) (htu _ C_111) (htu _ C_140) (Nat.le_of_ble_eq_true rfl) (Nat.le_of_ble_eq_true rfl) (c_b1 hpp hC) (c_b2 hpp hC) dX4_addRecord_33 ?_
    refine lv_topi (fun f_70 ef_70 => ?_)
    refine lv_istore_n (lv' := [(2, .int f_70), (0, .ref (ga G 2)), (1, .int (nI fr)), (3, .int (nI Y)), (4, .int (nI i))]) hx hb dX4_addRecord_36 rfl hl (by decide) rfl (fun ls hl => ?_)
    refine lv_iinc (v := nI (i + 1)) (lv' := [(4, .int (nI (i + 1))), (2, .int f_70), (0, .ref (ga G 2)), (1, .int (nI fr)), (3, .int (nI Y))]) hx hb dX4_addRecord_37 hl (k := 4) rfl (nI_1 i) (by decide) rfl (fun ls hl => ?_)
    refine lv_goto (tgt := 13) hx hb dX4_addRecord_40 (by decide) ?_
    exact ih9 _ _ _ _ _ ⟨f_70, i + 1, ls, by omega, rfl, rfl, hP, hD, hS, lv_sub hl [2, 3, 1, 4, 0] rfl, rfl⟩

set_option maxHeartbeats 4000000 in
set_option maxRecDepth 100000 in
/-- addVariable -/
theorem y_addVariable (l : Launch) (G : cG) (S : cS) (T : Nat) (V : Nat) (VP : Nat) (X : Nat) (Y : Nat) (Z : Nat) (lv : Int32) (hC : CL S) (hY : TY S T V VP X Y Z) (hVP : VP = V) (hlv : 0 ≤ lv) (Hs : Heap) : Met l yX4_addVariable (wC yX4_addVariable cX4_addVariable 4 (some .int)) (cRm S 4 128) (cPc G S Hs [.ref (ga G 2), .int lv]) (cQi G S Hs (fun v u => AW [6, 7, 8, 9, 16, 14, 35] [] S u ∧ ((v = -6 ∧ u = S) ∨ (v = nI T ∧ T < 602 ∧ TY u (T + 1) (V + 1) (V + 1) X Y Z ∧ OC S u T ∧ kF u 6 T = 4 ∧ kF u 8 T = nI V ∧ V < 150 ∧ (∀ j, j < 2 * V → kK u (35 + j) = kK S (35 + j)) ∧ kK u (35 + 2 * V) = 0 ∧ kK u (35 + (2 * V + 1)) = 0)))) (CC - PT S) (12 * (CC - PT S)) (cA G S Hs.size) := by
  refine Met.ofW (cc := cX4_addVariable) (maxL := 4) (ret := (some .int)) (by decide) rfl ?_
  intro p e s m args below meth c s₁ B hml hv
  obtain ⟨rfl, hsz, hP, hK, hD0, -⟩ := hv
  have hx := B.exec
  have hb := B.bytes
  have hr := B.returns
  have htu : ∀ w ∈ CU, w.before _ s = true := fun w h => atoms_spec (ws := (wC yX4_addVariable cX4_addVariable 4 (some .int))) B.pre w (List.mem_cons_of_mem _ h)
  have hown : s.vm.findClass RX4 = some m.cls := findClass_of_methodNamed B.named
  have hlocks := B.notSynchronized
  subst hsz
  have hD : cD (cA G S s.heap.size) G S := cD_self hD0
  have hl := lv_entry ([.ref (ga G 2), .int lv]) (n := 4) (Nat.le_of_ble_eq_true rfl)
  rw [lg_entry_eq]
  generalize (lg_sl ([.ref (ga G 2), .int lv]) ++ List.replicate (4 - (lg_sl ([.ref (ga G 2), .int lv])).length) Slot.unset).toArray = ls at hl ⊢
  have hl : lv_has ls 4 [(0, .ref (ga G 2)), (1, .int lv)] := hl
  obtain ⟨H, hHe⟩ : ∃ H : Heap, H = s.heap := ⟨_, rfl⟩
  rw [← hHe] at hP
  have hS : va_S (cA G S s.heap.size) s.heap H [] := by rw [hHe]; exact va_S.rf
  have hh : HS S S := HS.rf
  have hpp : PT S ≤ PT S := Nat.le_refl _
  have hB9 := hC.1
  refine W.heq hHe ?_
  refine c_ent (S := S) ?_
  obtain ⟨⟨k6, k7, k8, k9, k16, k14, k10, k11, k12, k13, k17, k18⟩, ⟨tT, tV, tB, tX⟩, tv, tr, ts⟩ := id hY
  refine lv_aload_n hx hb dX4_addVariable_0 rfl (lv_at hl 0 rfl) ?_
  refine va_get (D := gD G) (ci := 4) (v := .ref (kH S 14)) (C := RX4) (T := TX4) (N := 14) hx hb htu cu_in4 hown hK hP 2 cw_2 rfl 8 (by decide) (htu _ C_74) (fun _ h9 => h9) rfl dX4_addVariable_1 ?_
  refine va_get (D := gD G) (ci := 0) (v := .int (nI V)) (C := RX0) (T := TX0) (N := 2) hx hb htu cu_in0 hown hK hP (2 * 14 + 13) (c_hd rfl (cw_row (lt35 (by decide)))) rfl 1 (by decide) (htu _ C_94) (fun _ h9 => h9) (m_v (congrArg nI k14)) dX4_addVariable_4 ?_
  refine lv_istore_n (lv' := [(2, .int (nI V)), (0, .ref (ga G 2)), (1, .int lv)]) hx hb dX4_addVariable_7 rfl hl (by decide) rfl (fun ls hl => ?_)
  refine lv_iload_n hx hb dX4_addVariable_8 rfl (lv_at hl 0 rfl) ?_
  refine lv_sipush (v := 150) hx hb dX4_addVariable_9 (by decide) ?_
  refine lv_icmp_lt (tgt := 18) hx hb dX4_addVariable_12 (by decide) (fun c_1 => ?_) (fun c_1 => ?_)
  · skip
    have nc_1 : V < 150 := (nI_ltI (a := V) (b := 150) (by omega) (by omega)).mp c_1
    refine lv_aload_n hx hb dX4_addVariable_18 rfl (lv_at hl 1 rfl) ?_
    refine lv_iconst (v := 4) hx hb dX4_addVariable_19 (by decide) ?_
    refine lv_iload_n hx hb dX4_addVariable_20 rfl (lv_at hl 2 rfl) ?_
    refine lv_iload_n hx hb dX4_addVariable_21 rfl (lv_at hl 0 rfl) ?_
    refine lv_bipush (v := (-9)) hx hb dX4_addVariable_22 (by decide) ?_
    have hC0 := hC
    refine c_ci (c_runV (As := [.int 4, .int lv, .int (nI V), .int ((-9))]) (rest := []) (q0 := 2) (ci := 4) ⟨hx, hb, hml, hown, htu⟩ (y_addType l G S T V VP X Y Z ((V + 1)) 4 lv (nI V) ((-9)) hC hY ((by omega)) ((fun _ => ⟨⟨V, Nat.lt_succ_self _, rfl⟩, hlv⟩)) ((fun h => absurd h (by decide))) ((Or.inr (Or.inr (Or.inl rfl)))) H) (cwV 4 htu hU_X4_65 rfl rfl rfl (by decide +kernel) ⟨Nat.le_of_ble_eq_true rfl, Nat.le_of_ble_eq_true rfl⟩) hP hK hD hC hpp cw_2 rfl rfl hl.1 rfl (lv_room (Nat.le_of_ble_eq_true rfl)) dX4_addVariable_24) hS hD hh hpp (fun r_2 S_3 H locs hw_4 hP hD hS hC hh hs_5 hpp => ?_)
    try dsimp only at hw_4
    have aw_6 : AW [6, 7, 8, 9, 16] [] S S_3 := hw_4.1
    have aw_6t : AW [6, 7, 8, 9, 16, 14, 35] [] S S_3 := AW.rf.tr (aw_6.mono (by decide) (by decide))
    have kk_7 : kK S_3 14 = V := (aw_6.2.1 14 (lt35 (by decide)) (by decide)).2.trans k14
    have kk_8 : kK S_3 10 = X := (aw_6.2.1 10 (lt35 (by decide)) (by decide)).2.trans k10
    have kk_9 : kK S_3 11 = X := (aw_6.2.1 11 (lt35 (by decide)) (by decide)).2.trans k11
    have kk_10 : kK S_3 12 = Y := (aw_6.2.1 12 (lt35 (by decide)) (by decide)).2.trans k12
    have kk_11 : kK S_3 13 = Y := (aw_6.2.1 13 (lt35 (by decide)) (by decide)).2.trans k13
    have kk_12 : kK S_3 17 = Z := (aw_6.2.1 17 (lt35 (by decide)) (by decide)).2.trans k17
    have kk_13 : kK S_3 18 = Z := (aw_6.2.1 18 (lt35 (by decide)) (by decide)).2.trans k18
    rcases hw_4.2 with ⟨ty_14v, ty_14s⟩ | ⟨ty_14v, ty_14t, ty_14, ty_14o, ty_144, ty_148⟩
    · skip
      subst ty_14v
      refine lv_istore_n (lv' := [(3, .int ((-6))), (2, .int (nI V)), (0, .ref (ga G 2)), (1, .int lv)]) hx hb dX4_addVariable_27 rfl hl (by decide) rfl (fun ls hl => ?_)
      refine lv_iload_n hx hb dX4_addVariable_28 rfl (lv_at hl 0 rfl) ?_
      refine lv_if_ge (tgt := 34) hx hb dX4_addVariable_29 (by decide) (fun c_15 => absurd c_15 (by decide)) (fun c_15 => ?_)
      refine lv_iload_n hx hb dX4_addVariable_32 rfl (lv_at hl 0 rfl) ?_
      exact c_iret (v := (-6)) hx hb hr hK hP hD hS hC hh hpp ⟨aw_6t, (Or.inl ⟨rfl, ty_14s.1⟩)⟩ dX4_addVariable_33 hlocks
    · skip
      subst ty_14v
      refine lv_istore_n (lv' := [(3, .int (nI T)), (2, .int (nI V)), (0, .ref (ga G 2)), (1, .int lv)]) hx hb dX4_addVariable_27 rfl hl (by decide) rfl (fun ls hl => ?_)
      refine lv_iload_n hx hb dX4_addVariable_28 rfl (lv_at hl 0 rfl) ?_
      refine lv_if_ge (tgt := 34) hx hb dX4_addVariable_29 (by decide) (fun c_16 => ?_) (fun c_16 => absurd (Int32.not_lt.mp (nI_n0 (by omega))) c_16)
      have t150 : V < 150 := nc_1
      have b9 : 2 * V ≤ kB S_3 := ty_14.2.1.2.2.1
      refine lv_aload_n hx hb dX4_addVariable_34 rfl (lv_at hl 2 rfl) ?_
      refine va_get (D := gD G) (ci := 4) (v := .ref (kH S 14)) (C := RX4) (T := TX4) (N := 14) hx hb htu cu_in4 hown hK hP 2 cw_2 rfl 8 (by decide) (htu _ C_74) (fun _ h9 => h9) (c_hv (hh.2 14 (lt35 (by decide)))) dX4_addVariable_35 ?_
      refine lv_iload_n hx hb dX4_addVariable_38 rfl (lv_at hl 0 rfl) ?_
      have hC0 := hC
      refine c_cv (c_runV (As := [.int (nI T)]) (rest := []) (q0 := (2 * 14 + 13)) (ci := 0) ⟨hx, hb, hml, hown, htu⟩ (c_addA l G S_3 14 (lt35 (by decide)) hC (kH S 14) (hh.2 14 (lt35 (by decide))) (nI T) (show kK S_3 14 < lim 14 by rw [ty_14.1.2.2.2.2.2.1, lim_14]; omega) H) (cwV 1 htu hU_X4_73 rfl rfl rfl (by decide +kernel) ⟨Nat.le_of_ble_eq_true rfl, Nat.le_of_ble_eq_true rfl⟩) hP hK hD hC hpp (c_hd (hh.2 14 (lt35 (by decide))) (cw_row (lt35 (by decide)))) rfl rfl hl.1 rfl (lv_room (Nat.le_of_ble_eq_true rfl)) dX4_addVariable_39) hS hD hh hpp (fun S_18 H locs hw_19 hP hD hS hC hh hs_20 hpp => ?_)
      try dsimp only at hw_19
      have aw_21 : AW [14] [] S_3 S_18 := (by obtain ⟨_, _, _, h9, -, -⟩ := hw_19; rw [h9]; exact AW.u (by decide))
      have aw_21t : AW [6, 7, 8, 9, 16, 14, 35] [] S S_18 := aw_6t.tr (aw_21.mono (by decide) (by decide))
      have kk_22 : kK S_18 10 = X := (aw_21.2.1 10 (lt35 (by decide)) (by decide)).2.trans kk_8
      have kk_23 : kK S_18 11 = X := (aw_21.2.1 11 (lt35 (by decide)) (by decide)).2.trans kk_9
      have kk_24 : kK S_18 12 = Y := (aw_21.2.1 12 (lt35 (by decide)) (by decide)).2.trans kk_10
      have kk_25 : kK S_18 13 = Y := (aw_21.2.1 13 (lt35 (by decide)) (by decide)).2.trans kk_11
      have kk_26 : kK S_18 17 = Z := (aw_21.2.1 17 (lt35 (by decide)) (by decide)).2.trans kk_12
      have kk_27 : kK S_18 18 = Z := (aw_21.2.1 18 (lt35 (by decide)) (by decide)).2.trans kk_13
      obtain ⟨ad_28n, ad_28q, ad_28g, ad_28u, ad_281, ad_282⟩ := hw_19
      have kk_29 : kK S_18 14 = V + 1 := by rw [ad_28u]; exact uR_K.trans (congrArg (· + 1) ty_14.1.2.2.2.2.2.1)
      refine lv_aload_n hx hb dX4_addVariable_42 rfl (lv_at hl 2 rfl) ?_
      refine lv_iconst (v := 2) hx hb dX4_addVariable_43 (by decide) ?_
      refine lv_iload_n hx hb dX4_addVariable_44 rfl (lv_at hl 1 rfl) ?_
      refine lv_imul hx hb dX4_addVariable_45 ?_
      refine m_top (y := nI (2 * V)) (pk_mul 2 V) ?_
      refine lv_iconst (v := 0) hx hb dX4_addVariable_46 (by decide) ?_
      refine lv_iadd hx hb dX4_addVariable_47 ?_
      refine m_top (y := nI (2 * V)) (Int32.add_zero _) ?_
      have b10 : 2 * V ≤ kB S_18 := Nat.le_trans b9 aw_21.2.2.2.1
      have hC0 := hC
      refine c_cv (c_runV (As := [.int (nI (2 * V))]) (rest := []) (q0 := 2) (ci := 4) ⟨hx, hb, hml, hown, htu⟩ (y_emptyBounds l G S_18 (2 * V) hC ((by omega)) ((show _ ≤ _ by omega)) H) (cwV 1 htu hU_X4_76 rfl rfl rfl (by decide +kernel) ⟨Nat.le_of_ble_eq_true rfl, Nat.le_of_ble_eq_true rfl⟩) hP hK hD hC hpp cw_2 rfl rfl hl.1 rfl (lv_room (Nat.le_of_ble_eq_true rfl)) dX4_addVariable_48) hS hD hh hpp (fun S_31 H locs hw_32 hP hD hS hC hh hs_33 hpp => ?_)
      try dsimp only at hw_32
      have aw_34 : AW [35] [] S_18 S_31 := hw_32.1
      have aw_34t : AW [6, 7, 8, 9, 16, 14, 35] [] S S_31 := aw_21t.tr (aw_34.mono (by decide) (by decide))
      have kk_35 : kK S_31 10 = X := (aw_34.2.1 10 (lt35 (by decide)) (by decide)).2.trans kk_22
      have kk_36 : kK S_31 11 = X := (aw_34.2.1 11 (lt35 (by decide)) (by decide)).2.trans kk_23
      have kk_37 : kK S_31 12 = Y := (aw_34.2.1 12 (lt35 (by decide)) (by decide)).2.trans kk_24
      have kk_38 : kK S_31 13 = Y := (aw_34.2.1 13 (lt35 (by decide)) (by decide)).2.trans kk_25
      have kk_39 : kK S_31 17 = Z := (aw_34.2.1 17 (lt35 (by decide)) (by decide)).2.trans kk_26
      have kk_40 : kK S_31 18 = Z := (aw_34.2.1 18 (lt35 (by decide)) (by decide)).2.trans kk_27
      have kk_41 : kK S_31 14 = V + 1 := (aw_34.2.1 14 (lt35 (by decide)) (by decide)).2.trans kk_29
      obtain ⟨-, eb_421, eb_422, eb_423⟩ := id hw_32
      refine lv_aload_n hx hb dX4_addVariable_51 rfl (lv_at hl 2 rfl) ?_
      refine lv_iconst (v := 2) hx hb dX4_addVariable_52 (by decide) ?_
      refine lv_iload_n hx hb dX4_addVariable_53 rfl (lv_at hl 1 rfl) ?_
      refine lv_imul hx hb dX4_addVariable_54 ?_
      refine m_top (y := nI (2 * V)) (pk_mul 2 V) ?_
      refine lv_iconst (v := 1) hx hb dX4_addVariable_55 (by decide) ?_
      refine lv_iadd hx hb dX4_addVariable_56 ?_
      refine m_top (y := nI (2 * V + 1)) (nI_add _ 1) ?_
      have hC0 := hC
      refine c_cv (c_runV (As := [.int (nI (2 * V + 1))]) (rest := []) (q0 := 2) (ci := 4) ⟨hx, hb, hml, hown, htu⟩ (y_emptyBounds l G S_31 (2 * V + 1) hC ((by omega)) ((Nat.succ_le_of_lt eb_421)) H) (cwV 1 htu hU_X4_76 rfl rfl rfl (by decide +kernel) ⟨Nat.le_of_ble_eq_true rfl, Nat.le_of_ble_eq_true rfl⟩) hP hK hD hC hpp cw_2 rfl rfl hl.1 rfl (lv_room (Nat.le_of_ble_eq_true rfl)) dX4_addVariable_57) hS hD hh hpp (fun S_44 H locs hw_45 hP hD hS hC hh hs_46 hpp => ?_)
      try dsimp only at hw_45
      have aw_47 : AW [35] [] S_31 S_44 := hw_45.1
      have aw_47t : AW [6, 7, 8, 9, 16, 14, 35] [] S S_44 := aw_34t.tr (aw_47.mono (by decide) (by decide))
      have kk_48 : kK S_44 10 = X := (aw_47.2.1 10 (lt35 (by decide)) (by decide)).2.trans kk_35
      have kk_49 : kK S_44 11 = X := (aw_47.2.1 11 (lt35 (by decide)) (by decide)).2.trans kk_36
      have kk_50 : kK S_44 12 = Y := (aw_47.2.1 12 (lt35 (by decide)) (by decide)).2.trans kk_37
      have kk_51 : kK S_44 13 = Y := (aw_47.2.1 13 (lt35 (by decide)) (by decide)).2.trans kk_38
      have kk_52 : kK S_44 17 = Z := (aw_47.2.1 17 (lt35 (by decide)) (by decide)).2.trans kk_39
      have kk_53 : kK S_44 18 = Z := (aw_47.2.1 18 (lt35 (by decide)) (by decide)).2.trans kk_40
      have kk_54 : kK S_44 14 = V + 1 := (aw_47.2.1 14 (lt35 (by decide)) (by decide)).2.trans kk_41
      obtain ⟨-, eb_551, eb_552, eb_553⟩ := id hw_45
      refine lv_iload_n hx hb dX4_addVariable_60 rfl (lv_at hl 0 rfl) ?_
      have w9 : AW [14, 35] [] S_3 S_44 := (aw_21.mono (by decide) (by decide)).tr ((aw_34.mono (by decide) (by decide)).tr (aw_47.mono (by decide) (by decide)))
      have z14 : kK S_44 14 = V + 1 := (aw_47.2.1 14 (lt35 (by decide)) (by decide)).2.trans ((aw_34.2.1 14 (lt35 (by decide)) (by decide)).2.trans kk_29)
      have fin := ty_14.var w9 z14 t150 (show 2 * (V + 1) ≤ kB S_44 from eb_551)
      have old : ∀ j, j < 2 * V → kK S_44 (35 + j) = kK S (35 + j) := fun j hj => (eb_553 j (Nat.lt_trans hj eb_421) (Nat.ne_of_lt (Nat.lt_succ_of_lt hj))).trans ((eb_423 j (Nat.lt_of_lt_of_le hj b10) (Nat.ne_of_lt hj)).trans ((aw_21.2.1 (35 + j) (Nat.add_lt_add_left (Nat.lt_of_lt_of_le hj b9) 35) (by rw [Nat.min_eq_right (Nat.le_add_right 35 j)]; decide)).2.trans (aw_6.2.1 (35 + j) (Nat.add_lt_add_left (Nat.lt_of_lt_of_le hj tB) 35) (by rw [Nat.min_eq_right (Nat.le_add_right 35 j)]; decide)).2))
      exact c_iret (v := nI T) hx hb hr hK hP hD hS hC hh hpp ⟨aw_47t, (Or.inr ⟨rfl, ty_14t, fin, ty_14o.tr (T' := T) (OC.aw w9 (by decide)) (Nat.le_refl _), (w9.2.1 6 (lt35 (by decide)) (by decide)).1 ▸ ty_144, (w9.2.1 8 (lt35 (by decide)) (by decide)).1 ▸ ty_148, t150, old, (eb_553 (2 * V) eb_421 (Nat.ne_of_lt (Nat.lt_succ_self _))).trans eb_422, eb_552⟩)⟩ dX4_addVariable_61 hlocks
  · skip
    have nc_1 : ¬ V < 150 := fun h9 => c_1 ((nI_ltI (a := V) (b := 150) (by omega) (by omega)).mpr h9)
    refine lv_bipush (v := (-6)) hx hb dX4_addVariable_15 (by decide) ?_
    exact c_iret (v := (-6)) hx hb hr hK hP hD hS hC hh hpp ⟨AW.rf, (Or.inl ⟨rfl, rfl⟩)⟩ dX4_addVariable_17 hlocks

set_option maxHeartbeats 4000000 in
set_option maxRecDepth 100000 in
/-- startAnew -/
theorem y_startAnew (l : Launch) (G : cG) (S : cS) (hC : CL S) (Hs : Heap) : Met l yX4_startAnew (wC yX4_startAnew cX4_startAnew 1 none) (cRm S 4 128) (cPc G S Hs [.ref (ga G 2)]) (cQv G S Hs (fun u => AW [6, 7, 8, 9, 16, 14, 10, 11, 12, 13, 17, 18] [] S u ∧ (TY u 2 0 0 0 0 0))) (CC - PT S) (12 * (CC - PT S)) (cA G S Hs.size) := by
  refine Met.ofW (cc := cX4_startAnew) (maxL := 1) (ret := none) (by decide) rfl ?_
  intro p e s m args below meth c s₁ B hml hv
  obtain ⟨rfl, hsz, hP, hK, hD0, -⟩ := hv
  have hx := B.exec
  have hb := B.bytes
  have hr := B.returns
  have htu : ∀ w ∈ CU, w.before _ s = true := fun w h => atoms_spec (ws := (wC yX4_startAnew cX4_startAnew 1 none)) B.pre w (List.mem_cons_of_mem _ h)
  have hown : s.vm.findClass RX4 = some m.cls := findClass_of_methodNamed B.named
  have hlocks := B.notSynchronized
  subst hsz
  have hD : cD (cA G S s.heap.size) G S := cD_self hD0
  have hl := lv_entry ([.ref (ga G 2)]) (n := 1) (Nat.le_of_ble_eq_true rfl)
  rw [lg_entry_eq]
  generalize (lg_sl ([.ref (ga G 2)]) ++ List.replicate (1 - (lg_sl ([.ref (ga G 2)])).length) Slot.unset).toArray = ls at hl ⊢
  have hl : lv_has ls 1 [(0, .ref (ga G 2))] := hl
  obtain ⟨H, hHe⟩ : ∃ H : Heap, H = s.heap := ⟨_, rfl⟩
  rw [← hHe] at hP
  have hS : va_S (cA G S s.heap.size) s.heap H [] := by rw [hHe]; exact va_S.rf
  have hh : HS S S := HS.rf
  have hpp : PT S ≤ PT S := Nat.le_refl _
  have hB9 := hC.1
  refine W.heq hHe ?_
  refine c_ent (S := S) ?_
  refine lv_aload_n hx hb dX4_startAnew_0 rfl (lv_at hl 0 rfl) ?_
  refine va_get (D := gD G) (ci := 4) (v := .ref (kH S 6)) (C := RX4) (T := TX4) (N := 14) hx hb htu cu_in4 hown hK hP 2 cw_2 rfl 0 (by decide) (htu _ C_66) (fun _ h9 => h9) rfl dX4_startAnew_1 ?_
  refine lv_iconst (v := 0) hx hb dX4_startAnew_4 (by decide) ?_
  have hC0 := hC
  refine c_cv (c_runV (As := [.int 0]) (rest := []) (q0 := (2 * 6 + 13)) (ci := 0) ⟨hx, hb, hml, hown, htu⟩ (c_cutA l G S 6 (lt35 (by decide)) hC (kH S 6) rfl 0 H) (cwV 1 htu hU_X4_61 rfl rfl rfl (by decide +kernel) ⟨Nat.le_of_ble_eq_true rfl, Nat.le_of_ble_eq_true rfl⟩) hP hK hD hC hpp (c_hd rfl (cw_row (lt35 (by decide)))) rfl rfl hl.1 rfl (lv_room (Nat.le_of_ble_eq_true rfl)) dX4_startAnew_5) hS hD hh hpp (fun S_2 H locs hw_3 hP hD hS hC hh hs_4 hpp => ?_)
  try dsimp only at hw_3
  have aw_5 : AW [6] [] S S_2 := (by rw [hw_3]; exact AW.u (by decide))
  have aw_5t : AW [6, 7, 8, 9, 16, 14, 10, 11, 12, 13, 17, 18] [] S S_2 := AW.rf.tr (aw_5.mono (by decide) (by decide))
  have kk_6 : kK S_2 6 = 0 := by rw [hw_3]; exact uR_K.trans (rcut_0 _ (by have := hC0.2 6 (lt35 (by decide)); have := lim_le 6; omega))
  refine lv_aload_n hx hb dX4_startAnew_8 rfl (lv_at hl 0 rfl) ?_
  refine va_get (D := gD G) (ci := 4) (v := .ref (kH S 7)) (C := RX4) (T := TX4) (N := 14) hx hb htu cu_in4 hown hK hP 2 cw_2 rfl 1 (by decide) (htu _ C_67) (fun _ h9 => h9) (c_hv (hh.2 7 (lt35 (by decide)))) dX4_startAnew_9 ?_
  refine lv_iconst (v := 0) hx hb dX4_startAnew_12 (by decide) ?_
  have hC0 := hC
  refine c_cv (c_runV (As := [.int 0]) (rest := []) (q0 := (2 * 7 + 13)) (ci := 0) ⟨hx, hb, hml, hown, htu⟩ (c_cutA l G S_2 7 (lt35 (by decide)) hC (kH S 7) (hh.2 7 (lt35 (by decide))) 0 H) (cwV 1 htu hU_X4_61 rfl rfl rfl (by decide +kernel) ⟨Nat.le_of_ble_eq_true rfl, Nat.le_of_ble_eq_true rfl⟩) hP hK hD hC hpp (c_hd (hh.2 7 (lt35 (by decide))) (cw_row (lt35 (by decide)))) rfl rfl hl.1 rfl (lv_room (Nat.le_of_ble_eq_true rfl)) dX4_startAnew_13) hS hD hh hpp (fun S_8 H locs hw_9 hP hD hS hC hh hs_10 hpp => ?_)
  try dsimp only at hw_9
  have aw_11 : AW [7] [] S_2 S_8 := (by rw [hw_9]; exact AW.u (by decide))
  have aw_11t : AW [6, 7, 8, 9, 16, 14, 10, 11, 12, 13, 17, 18] [] S S_8 := aw_5t.tr (aw_11.mono (by decide) (by decide))
  have kk_12 : kK S_8 6 = 0 := (aw_11.2.1 6 (lt35 (by decide)) (by decide)).2.trans kk_6
  have kk_13 : kK S_8 7 = 0 := by rw [hw_9]; exact uR_K.trans (rcut_0 _ (by have := hC0.2 7 (lt35 (by decide)); have := lim_le 7; omega))
  refine lv_aload_n hx hb dX4_startAnew_16 rfl (lv_at hl 0 rfl) ?_
  refine va_get (D := gD G) (ci := 4) (v := .ref (kH S 8)) (C := RX4) (T := TX4) (N := 14) hx hb htu cu_in4 hown hK hP 2 cw_2 rfl 2 (by decide) (htu _ C_68) (fun _ h9 => h9) (c_hv (hh.2 8 (lt35 (by decide)))) dX4_startAnew_17 ?_
  refine lv_iconst (v := 0) hx hb dX4_startAnew_20 (by decide) ?_
  have hC0 := hC
  refine c_cv (c_runV (As := [.int 0]) (rest := []) (q0 := (2 * 8 + 13)) (ci := 0) ⟨hx, hb, hml, hown, htu⟩ (c_cutA l G S_8 8 (lt35 (by decide)) hC (kH S 8) (hh.2 8 (lt35 (by decide))) 0 H) (cwV 1 htu hU_X4_61 rfl rfl rfl (by decide +kernel) ⟨Nat.le_of_ble_eq_true rfl, Nat.le_of_ble_eq_true rfl⟩) hP hK hD hC hpp (c_hd (hh.2 8 (lt35 (by decide))) (cw_row (lt35 (by decide)))) rfl rfl hl.1 rfl (lv_room (Nat.le_of_ble_eq_true rfl)) dX4_startAnew_21) hS hD hh hpp (fun S_15 H locs hw_16 hP hD hS hC hh hs_17 hpp => ?_)
  try dsimp only at hw_16
  have aw_18 : AW [8] [] S_8 S_15 := (by rw [hw_16]; exact AW.u (by decide))
  have aw_18t : AW [6, 7, 8, 9, 16, 14, 10, 11, 12, 13, 17, 18] [] S S_15 := aw_11t.tr (aw_18.mono (by decide) (by decide))
  have kk_19 : kK S_15 6 = 0 := (aw_18.2.1 6 (lt35 (by decide)) (by decide)).2.trans kk_12
  have kk_20 : kK S_15 7 = 0 := (aw_18.2.1 7 (lt35 (by decide)) (by decide)).2.trans kk_13
  have kk_21 : kK S_15 8 = 0 := by rw [hw_16]; exact uR_K.trans (rcut_0 _ (by have := hC0.2 8 (lt35 (by decide)); have := lim_le 8; omega))
  refine lv_aload_n hx hb dX4_startAnew_24 rfl (lv_at hl 0 rfl) ?_
  refine va_get (D := gD G) (ci := 4) (v := .ref (kH S 9)) (C := RX4) (T := TX4) (N := 14) hx hb htu cu_in4 hown hK hP 2 cw_2 rfl 3 (by decide) (htu _ C_69) (fun _ h9 => h9) (c_hv (hh.2 9 (lt35 (by decide)))) dX4_startAnew_25 ?_
  refine lv_iconst (v := 0) hx hb dX4_startAnew_28 (by decide) ?_
  have hC0 := hC
  refine c_cv (c_runV (As := [.int 0]) (rest := []) (q0 := (2 * 9 + 13)) (ci := 0) ⟨hx, hb, hml, hown, htu⟩ (c_cutA l G S_15 9 (lt35 (by decide)) hC (kH S 9) (hh.2 9 (lt35 (by decide))) 0 H) (cwV 1 htu hU_X4_61 rfl rfl rfl (by decide +kernel) ⟨Nat.le_of_ble_eq_true rfl, Nat.le_of_ble_eq_true rfl⟩) hP hK hD hC hpp (c_hd (hh.2 9 (lt35 (by decide))) (cw_row (lt35 (by decide)))) rfl rfl hl.1 rfl (lv_room (Nat.le_of_ble_eq_true rfl)) dX4_startAnew_29) hS hD hh hpp (fun S_23 H locs hw_24 hP hD hS hC hh hs_25 hpp => ?_)
  try dsimp only at hw_24
  have aw_26 : AW [9] [] S_15 S_23 := (by rw [hw_24]; exact AW.u (by decide))
  have aw_26t : AW [6, 7, 8, 9, 16, 14, 10, 11, 12, 13, 17, 18] [] S S_23 := aw_18t.tr (aw_26.mono (by decide) (by decide))
  have kk_27 : kK S_23 6 = 0 := (aw_26.2.1 6 (lt35 (by decide)) (by decide)).2.trans kk_19
  have kk_28 : kK S_23 7 = 0 := (aw_26.2.1 7 (lt35 (by decide)) (by decide)).2.trans kk_20
  have kk_29 : kK S_23 8 = 0 := (aw_26.2.1 8 (lt35 (by decide)) (by decide)).2.trans kk_21
  have kk_30 : kK S_23 9 = 0 := by rw [hw_24]; exact uR_K.trans (rcut_0 _ (by have := hC0.2 9 (lt35 (by decide)); have := lim_le 9; omega))
  refine lv_aload_n hx hb dX4_startAnew_32 rfl (lv_at hl 0 rfl) ?_
  refine va_get (D := gD G) (ci := 4) (v := .ref (kH S 10)) (C := RX4) (T := TX4) (N := 14) hx hb htu cu_in4 hown hK hP 2 cw_2 rfl 4 (by decide) (htu _ C_70) (fun _ h9 => h9) (c_hv (hh.2 10 (lt35 (by decide)))) dX4_startAnew_33 ?_
  refine lv_iconst (v := 0) hx hb dX4_startAnew_36 (by decide) ?_
  have hC0 := hC
  refine c_cv (c_runV (As := [.int 0]) (rest := []) (q0 := (2 * 10 + 13)) (ci := 0) ⟨hx, hb, hml, hown, htu⟩ (c_cutA l G S_23 10 (lt35 (by decide)) hC (kH S 10) (hh.2 10 (lt35 (by decide))) 0 H) (cwV 1 htu hU_X4_61 rfl rfl rfl (by decide +kernel) ⟨Nat.le_of_ble_eq_true rfl, Nat.le_of_ble_eq_true rfl⟩) hP hK hD hC hpp (c_hd (hh.2 10 (lt35 (by decide))) (cw_row (lt35 (by decide)))) rfl rfl hl.1 rfl (lv_room (Nat.le_of_ble_eq_true rfl)) dX4_startAnew_37) hS hD hh hpp (fun S_32 H locs hw_33 hP hD hS hC hh hs_34 hpp => ?_)
  try dsimp only at hw_33
  have aw_35 : AW [10] [] S_23 S_32 := (by rw [hw_33]; exact AW.u (by decide))
  have aw_35t : AW [6, 7, 8, 9, 16, 14, 10, 11, 12, 13, 17, 18] [] S S_32 := aw_26t.tr (aw_35.mono (by decide) (by decide))
  have kk_36 : kK S_32 6 = 0 := (aw_35.2.1 6 (lt35 (by decide)) (by decide)).2.trans kk_27
  have kk_37 : kK S_32 7 = 0 := (aw_35.2.1 7 (lt35 (by decide)) (by decide)).2.trans kk_28
  have kk_38 : kK S_32 8 = 0 := (aw_35.2.1 8 (lt35 (by decide)) (by decide)).2.trans kk_29
  have kk_39 : kK S_32 9 = 0 := (aw_35.2.1 9 (lt35 (by decide)) (by decide)).2.trans kk_30
  have kk_40 : kK S_32 10 = 0 := by rw [hw_33]; exact uR_K.trans (rcut_0 _ (by have := hC0.2 10 (lt35 (by decide)); have := lim_le 10; omega))
  refine lv_aload_n hx hb dX4_startAnew_40 rfl (lv_at hl 0 rfl) ?_
  refine va_get (D := gD G) (ci := 4) (v := .ref (kH S 11)) (C := RX4) (T := TX4) (N := 14) hx hb htu cu_in4 hown hK hP 2 cw_2 rfl 5 (by decide) (htu _ C_71) (fun _ h9 => h9) (c_hv (hh.2 11 (lt35 (by decide)))) dX4_startAnew_41 ?_
  refine lv_iconst (v := 0) hx hb dX4_startAnew_44 (by decide) ?_
  have hC0 := hC
  refine c_cv (c_runV (As := [.int 0]) (rest := []) (q0 := (2 * 11 + 13)) (ci := 0) ⟨hx, hb, hml, hown, htu⟩ (c_cutA l G S_32 11 (lt35 (by decide)) hC (kH S 11) (hh.2 11 (lt35 (by decide))) 0 H) (cwV 1 htu hU_X4_61 rfl rfl rfl (by decide +kernel) ⟨Nat.le_of_ble_eq_true rfl, Nat.le_of_ble_eq_true rfl⟩) hP hK hD hC hpp (c_hd (hh.2 11 (lt35 (by decide))) (cw_row (lt35 (by decide)))) rfl rfl hl.1 rfl (lv_room (Nat.le_of_ble_eq_true rfl)) dX4_startAnew_45) hS hD hh hpp (fun S_42 H locs hw_43 hP hD hS hC hh hs_44 hpp => ?_)
  try dsimp only at hw_43
  have aw_45 : AW [11] [] S_32 S_42 := (by rw [hw_43]; exact AW.u (by decide))
  have aw_45t : AW [6, 7, 8, 9, 16, 14, 10, 11, 12, 13, 17, 18] [] S S_42 := aw_35t.tr (aw_45.mono (by decide) (by decide))
  have kk_46 : kK S_42 6 = 0 := (aw_45.2.1 6 (lt35 (by decide)) (by decide)).2.trans kk_36
  have kk_47 : kK S_42 7 = 0 := (aw_45.2.1 7 (lt35 (by decide)) (by decide)).2.trans kk_37
  have kk_48 : kK S_42 8 = 0 := (aw_45.2.1 8 (lt35 (by decide)) (by decide)).2.trans kk_38
  have kk_49 : kK S_42 9 = 0 := (aw_45.2.1 9 (lt35 (by decide)) (by decide)).2.trans kk_39
  have kk_50 : kK S_42 10 = 0 := (aw_45.2.1 10 (lt35 (by decide)) (by decide)).2.trans kk_40
  have kk_51 : kK S_42 11 = 0 := by rw [hw_43]; exact uR_K.trans (rcut_0 _ (by have := hC0.2 11 (lt35 (by decide)); have := lim_le 11; omega))
  refine lv_aload_n hx hb dX4_startAnew_48 rfl (lv_at hl 0 rfl) ?_
  refine va_get (D := gD G) (ci := 4) (v := .ref (kH S 12)) (C := RX4) (T := TX4) (N := 14) hx hb htu cu_in4 hown hK hP 2 cw_2 rfl 6 (by decide) (htu _ C_72) (fun _ h9 => h9) (c_hv (hh.2 12 (lt35 (by decide)))) dX4_startAnew_49 ?_
  refine lv_iconst (v := 0) hx hb dX4_startAnew_52 (by decide) ?_
  have hC0 := hC
  refine c_cv (c_runV (As := [.int 0]) (rest := []) (q0 := (2 * 12 + 13)) (ci := 0) ⟨hx, hb, hml, hown, htu⟩ (c_cutA l G S_42 12 (lt35 (by decide)) hC (kH S 12) (hh.2 12 (lt35 (by decide))) 0 H) (cwV 1 htu hU_X4_61 rfl rfl rfl (by decide +kernel) ⟨Nat.le_of_ble_eq_true rfl, Nat.le_of_ble_eq_true rfl⟩) hP hK hD hC hpp (c_hd (hh.2 12 (lt35 (by decide))) (cw_row (lt35 (by decide)))) rfl rfl hl.1 rfl (lv_room (Nat.le_of_ble_eq_true rfl)) dX4_startAnew_53) hS hD hh hpp (fun S_53 H locs hw_54 hP hD hS hC hh hs_55 hpp => ?_)
  try dsimp only at hw_54
  have aw_56 : AW [12] [] S_42 S_53 := (by rw [hw_54]; exact AW.u (by decide))
  have aw_56t : AW [6, 7, 8, 9, 16, 14, 10, 11, 12, 13, 17, 18] [] S S_53 := aw_45t.tr (aw_56.mono (by decide) (by decide))
  have kk_57 : kK S_53 6 = 0 := (aw_56.2.1 6 (lt35 (by decide)) (by decide)).2.trans kk_46
  have kk_58 : kK S_53 7 = 0 := (aw_56.2.1 7 (lt35 (by decide)) (by decide)).2.trans kk_47
  have kk_59 : kK S_53 8 = 0 := (aw_56.2.1 8 (lt35 (by decide)) (by decide)).2.trans kk_48
  have kk_60 : kK S_53 9 = 0 := (aw_56.2.1 9 (lt35 (by decide)) (by decide)).2.trans kk_49
  have kk_61 : kK S_53 10 = 0 := (aw_56.2.1 10 (lt35 (by decide)) (by decide)).2.trans kk_50
  have kk_62 : kK S_53 11 = 0 := (aw_56.2.1 11 (lt35 (by decide)) (by decide)).2.trans kk_51
  have kk_63 : kK S_53 12 = 0 := by rw [hw_54]; exact uR_K.trans (rcut_0 _ (by have := hC0.2 12 (lt35 (by decide)); have := lim_le 12; omega))
  refine lv_aload_n hx hb dX4_startAnew_56 rfl (lv_at hl 0 rfl) ?_
  refine va_get (D := gD G) (ci := 4) (v := .ref (kH S 13)) (C := RX4) (T := TX4) (N := 14) hx hb htu cu_in4 hown hK hP 2 cw_2 rfl 7 (by decide) (htu _ C_73) (fun _ h9 => h9) (c_hv (hh.2 13 (lt35 (by decide)))) dX4_startAnew_57 ?_
  refine lv_iconst (v := 0) hx hb dX4_startAnew_60 (by decide) ?_
  have hC0 := hC
  refine c_cv (c_runV (As := [.int 0]) (rest := []) (q0 := (2 * 13 + 13)) (ci := 0) ⟨hx, hb, hml, hown, htu⟩ (c_cutA l G S_53 13 (lt35 (by decide)) hC (kH S 13) (hh.2 13 (lt35 (by decide))) 0 H) (cwV 1 htu hU_X4_61 rfl rfl rfl (by decide +kernel) ⟨Nat.le_of_ble_eq_true rfl, Nat.le_of_ble_eq_true rfl⟩) hP hK hD hC hpp (c_hd (hh.2 13 (lt35 (by decide))) (cw_row (lt35 (by decide)))) rfl rfl hl.1 rfl (lv_room (Nat.le_of_ble_eq_true rfl)) dX4_startAnew_61) hS hD hh hpp (fun S_65 H locs hw_66 hP hD hS hC hh hs_67 hpp => ?_)
  try dsimp only at hw_66
  have aw_68 : AW [13] [] S_53 S_65 := (by rw [hw_66]; exact AW.u (by decide))
  have aw_68t : AW [6, 7, 8, 9, 16, 14, 10, 11, 12, 13, 17, 18] [] S S_65 := aw_56t.tr (aw_68.mono (by decide) (by decide))
  have kk_69 : kK S_65 6 = 0 := (aw_68.2.1 6 (lt35 (by decide)) (by decide)).2.trans kk_57
  have kk_70 : kK S_65 7 = 0 := (aw_68.2.1 7 (lt35 (by decide)) (by decide)).2.trans kk_58
  have kk_71 : kK S_65 8 = 0 := (aw_68.2.1 8 (lt35 (by decide)) (by decide)).2.trans kk_59
  have kk_72 : kK S_65 9 = 0 := (aw_68.2.1 9 (lt35 (by decide)) (by decide)).2.trans kk_60
  have kk_73 : kK S_65 10 = 0 := (aw_68.2.1 10 (lt35 (by decide)) (by decide)).2.trans kk_61
  have kk_74 : kK S_65 11 = 0 := (aw_68.2.1 11 (lt35 (by decide)) (by decide)).2.trans kk_62
  have kk_75 : kK S_65 12 = 0 := (aw_68.2.1 12 (lt35 (by decide)) (by decide)).2.trans kk_63
  have kk_76 : kK S_65 13 = 0 := by rw [hw_66]; exact uR_K.trans (rcut_0 _ (by have := hC0.2 13 (lt35 (by decide)); have := lim_le 13; omega))
  refine lv_aload_n hx hb dX4_startAnew_64 rfl (lv_at hl 0 rfl) ?_
  refine va_get (D := gD G) (ci := 4) (v := .ref (kH S 14)) (C := RX4) (T := TX4) (N := 14) hx hb htu cu_in4 hown hK hP 2 cw_2 rfl 8 (by decide) (htu _ C_74) (fun _ h9 => h9) (c_hv (hh.2 14 (lt35 (by decide)))) dX4_startAnew_65 ?_
  refine lv_iconst (v := 0) hx hb dX4_startAnew_68 (by decide) ?_
  have hC0 := hC
  refine c_cv (c_runV (As := [.int 0]) (rest := []) (q0 := (2 * 14 + 13)) (ci := 0) ⟨hx, hb, hml, hown, htu⟩ (c_cutA l G S_65 14 (lt35 (by decide)) hC (kH S 14) (hh.2 14 (lt35 (by decide))) 0 H) (cwV 1 htu hU_X4_61 rfl rfl rfl (by decide +kernel) ⟨Nat.le_of_ble_eq_true rfl, Nat.le_of_ble_eq_true rfl⟩) hP hK hD hC hpp (c_hd (hh.2 14 (lt35 (by decide))) (cw_row (lt35 (by decide)))) rfl rfl hl.1 rfl (lv_room (Nat.le_of_ble_eq_true rfl)) dX4_startAnew_69) hS hD hh hpp (fun S_78 H locs hw_79 hP hD hS hC hh hs_80 hpp => ?_)
  try dsimp only at hw_79
  have aw_81 : AW [14] [] S_65 S_78 := (by rw [hw_79]; exact AW.u (by decide))
  have aw_81t : AW [6, 7, 8, 9, 16, 14, 10, 11, 12, 13, 17, 18] [] S S_78 := aw_68t.tr (aw_81.mono (by decide) (by decide))
  have kk_82 : kK S_78 6 = 0 := (aw_81.2.1 6 (lt35 (by decide)) (by decide)).2.trans kk_69
  have kk_83 : kK S_78 7 = 0 := (aw_81.2.1 7 (lt35 (by decide)) (by decide)).2.trans kk_70
  have kk_84 : kK S_78 8 = 0 := (aw_81.2.1 8 (lt35 (by decide)) (by decide)).2.trans kk_71
  have kk_85 : kK S_78 9 = 0 := (aw_81.2.1 9 (lt35 (by decide)) (by decide)).2.trans kk_72
  have kk_86 : kK S_78 10 = 0 := (aw_81.2.1 10 (lt35 (by decide)) (by decide)).2.trans kk_73
  have kk_87 : kK S_78 11 = 0 := (aw_81.2.1 11 (lt35 (by decide)) (by decide)).2.trans kk_74
  have kk_88 : kK S_78 12 = 0 := (aw_81.2.1 12 (lt35 (by decide)) (by decide)).2.trans kk_75
  have kk_89 : kK S_78 13 = 0 := (aw_81.2.1 13 (lt35 (by decide)) (by decide)).2.trans kk_76
  have kk_90 : kK S_78 14 = 0 := by rw [hw_79]; exact uR_K.trans (rcut_0 _ (by have := hC0.2 14 (lt35 (by decide)); have := lim_le 14; omega))
  refine lv_aload_n hx hb dX4_startAnew_72 rfl (lv_at hl 0 rfl) ?_
  refine va_get (D := gD G) (ci := 4) (v := .ref (kH S 16)) (C := RX4) (T := TX4) (N := 14) hx hb htu cu_in4 hown hK hP 2 cw_2 rfl 11 (by decide) (htu _ C_77) (fun _ h9 => h9) (c_hv (hh.2 16 (lt35 (by decide)))) dX4_startAnew_73 ?_
  refine lv_iconst (v := 0) hx hb dX4_startAnew_76 (by decide) ?_
  have hC0 := hC
  refine c_cv (c_runV (As := [.int 0]) (rest := []) (q0 := (2 * 16 + 13)) (ci := 0) ⟨hx, hb, hml, hown, htu⟩ (c_cutA l G S_78 16 (lt35 (by decide)) hC (kH S 16) (hh.2 16 (lt35 (by decide))) 0 H) (cwV 1 htu hU_X4_61 rfl rfl rfl (by decide +kernel) ⟨Nat.le_of_ble_eq_true rfl, Nat.le_of_ble_eq_true rfl⟩) hP hK hD hC hpp (c_hd (hh.2 16 (lt35 (by decide))) (cw_row (lt35 (by decide)))) rfl rfl hl.1 rfl (lv_room (Nat.le_of_ble_eq_true rfl)) dX4_startAnew_77) hS hD hh hpp (fun S_92 H locs hw_93 hP hD hS hC hh hs_94 hpp => ?_)
  try dsimp only at hw_93
  have aw_95 : AW [16] [] S_78 S_92 := (by rw [hw_93]; exact AW.u (by decide))
  have aw_95t : AW [6, 7, 8, 9, 16, 14, 10, 11, 12, 13, 17, 18] [] S S_92 := aw_81t.tr (aw_95.mono (by decide) (by decide))
  have kk_96 : kK S_92 6 = 0 := (aw_95.2.1 6 (lt35 (by decide)) (by decide)).2.trans kk_82
  have kk_97 : kK S_92 7 = 0 := (aw_95.2.1 7 (lt35 (by decide)) (by decide)).2.trans kk_83
  have kk_98 : kK S_92 8 = 0 := (aw_95.2.1 8 (lt35 (by decide)) (by decide)).2.trans kk_84
  have kk_99 : kK S_92 9 = 0 := (aw_95.2.1 9 (lt35 (by decide)) (by decide)).2.trans kk_85
  have kk_100 : kK S_92 10 = 0 := (aw_95.2.1 10 (lt35 (by decide)) (by decide)).2.trans kk_86
  have kk_101 : kK S_92 11 = 0 := (aw_95.2.1 11 (lt35 (by decide)) (by decide)).2.trans kk_87
  have kk_102 : kK S_92 12 = 0 := (aw_95.2.1 12 (lt35 (by decide)) (by decide)).2.trans kk_88
  have kk_103 : kK S_92 13 = 0 := (aw_95.2.1 13 (lt35 (by decide)) (by decide)).2.trans kk_89
  have kk_104 : kK S_92 14 = 0 := (aw_95.2.1 14 (lt35 (by decide)) (by decide)).2.trans kk_90
  have kk_105 : kK S_92 16 = 0 := by rw [hw_93]; exact uR_K.trans (rcut_0 _ (by have := hC0.2 16 (lt35 (by decide)); have := lim_le 16; omega))
  refine lv_aload_n hx hb dX4_startAnew_80 rfl (lv_at hl 0 rfl) ?_
  refine va_get (D := gD G) (ci := 4) (v := .ref (kH S 17)) (C := RX4) (T := TX4) (N := 14) hx hb htu cu_in4 hown hK hP 2 cw_2 rfl 12 (by decide) (htu _ C_78) (fun _ h9 => h9) (c_hv (hh.2 17 (lt35 (by decide)))) dX4_startAnew_81 ?_
  refine lv_iconst (v := 0) hx hb dX4_startAnew_84 (by decide) ?_
  have hC0 := hC
  refine c_cv (c_runV (As := [.int 0]) (rest := []) (q0 := (2 * 17 + 13)) (ci := 0) ⟨hx, hb, hml, hown, htu⟩ (c_cutA l G S_92 17 (lt35 (by decide)) hC (kH S 17) (hh.2 17 (lt35 (by decide))) 0 H) (cwV 1 htu hU_X4_61 rfl rfl rfl (by decide +kernel) ⟨Nat.le_of_ble_eq_true rfl, Nat.le_of_ble_eq_true rfl⟩) hP hK hD hC hpp (c_hd (hh.2 17 (lt35 (by decide))) (cw_row (lt35 (by decide)))) rfl rfl hl.1 rfl (lv_room (Nat.le_of_ble_eq_true rfl)) dX4_startAnew_85) hS hD hh hpp (fun S_107 H locs hw_108 hP hD hS hC hh hs_109 hpp => ?_)
  try dsimp only at hw_108
  have aw_110 : AW [17] [] S_92 S_107 := (by rw [hw_108]; exact AW.u (by decide))
  have aw_110t : AW [6, 7, 8, 9, 16, 14, 10, 11, 12, 13, 17, 18] [] S S_107 := aw_95t.tr (aw_110.mono (by decide) (by decide))
  have kk_111 : kK S_107 6 = 0 := (aw_110.2.1 6 (lt35 (by decide)) (by decide)).2.trans kk_96
  have kk_112 : kK S_107 7 = 0 := (aw_110.2.1 7 (lt35 (by decide)) (by decide)).2.trans kk_97
  have kk_113 : kK S_107 8 = 0 := (aw_110.2.1 8 (lt35 (by decide)) (by decide)).2.trans kk_98
  have kk_114 : kK S_107 9 = 0 := (aw_110.2.1 9 (lt35 (by decide)) (by decide)).2.trans kk_99
  have kk_115 : kK S_107 10 = 0 := (aw_110.2.1 10 (lt35 (by decide)) (by decide)).2.trans kk_100
  have kk_116 : kK S_107 11 = 0 := (aw_110.2.1 11 (lt35 (by decide)) (by decide)).2.trans kk_101
  have kk_117 : kK S_107 12 = 0 := (aw_110.2.1 12 (lt35 (by decide)) (by decide)).2.trans kk_102
  have kk_118 : kK S_107 13 = 0 := (aw_110.2.1 13 (lt35 (by decide)) (by decide)).2.trans kk_103
  have kk_119 : kK S_107 14 = 0 := (aw_110.2.1 14 (lt35 (by decide)) (by decide)).2.trans kk_104
  have kk_120 : kK S_107 16 = 0 := (aw_110.2.1 16 (lt35 (by decide)) (by decide)).2.trans kk_105
  have kk_121 : kK S_107 17 = 0 := by rw [hw_108]; exact uR_K.trans (rcut_0 _ (by have := hC0.2 17 (lt35 (by decide)); have := lim_le 17; omega))
  refine lv_aload_n hx hb dX4_startAnew_88 rfl (lv_at hl 0 rfl) ?_
  refine va_get (D := gD G) (ci := 4) (v := .ref (kH S 18)) (C := RX4) (T := TX4) (N := 14) hx hb htu cu_in4 hown hK hP 2 cw_2 rfl 13 (by decide) (htu _ C_79) (fun _ h9 => h9) (c_hv (hh.2 18 (lt35 (by decide)))) dX4_startAnew_89 ?_
  refine lv_iconst (v := 0) hx hb dX4_startAnew_92 (by decide) ?_
  have hC0 := hC
  refine c_cv (c_runV (As := [.int 0]) (rest := []) (q0 := (2 * 18 + 13)) (ci := 0) ⟨hx, hb, hml, hown, htu⟩ (c_cutA l G S_107 18 (lt35 (by decide)) hC (kH S 18) (hh.2 18 (lt35 (by decide))) 0 H) (cwV 1 htu hU_X4_61 rfl rfl rfl (by decide +kernel) ⟨Nat.le_of_ble_eq_true rfl, Nat.le_of_ble_eq_true rfl⟩) hP hK hD hC hpp (c_hd (hh.2 18 (lt35 (by decide))) (cw_row (lt35 (by decide)))) rfl rfl hl.1 rfl (lv_room (Nat.le_of_ble_eq_true rfl)) dX4_startAnew_93) hS hD hh hpp (fun S_123 H locs hw_124 hP hD hS hC hh hs_125 hpp => ?_)
  try dsimp only at hw_124
  have aw_126 : AW [18] [] S_107 S_123 := (by rw [hw_124]; exact AW.u (by decide))
  have aw_126t : AW [6, 7, 8, 9, 16, 14, 10, 11, 12, 13, 17, 18] [] S S_123 := aw_110t.tr (aw_126.mono (by decide) (by decide))
  have kk_127 : kK S_123 6 = 0 := (aw_126.2.1 6 (lt35 (by decide)) (by decide)).2.trans kk_111
  have kk_128 : kK S_123 7 = 0 := (aw_126.2.1 7 (lt35 (by decide)) (by decide)).2.trans kk_112
  have kk_129 : kK S_123 8 = 0 := (aw_126.2.1 8 (lt35 (by decide)) (by decide)).2.trans kk_113
  have kk_130 : kK S_123 9 = 0 := (aw_126.2.1 9 (lt35 (by decide)) (by decide)).2.trans kk_114
  have kk_131 : kK S_123 10 = 0 := (aw_126.2.1 10 (lt35 (by decide)) (by decide)).2.trans kk_115
  have kk_132 : kK S_123 11 = 0 := (aw_126.2.1 11 (lt35 (by decide)) (by decide)).2.trans kk_116
  have kk_133 : kK S_123 12 = 0 := (aw_126.2.1 12 (lt35 (by decide)) (by decide)).2.trans kk_117
  have kk_134 : kK S_123 13 = 0 := (aw_126.2.1 13 (lt35 (by decide)) (by decide)).2.trans kk_118
  have kk_135 : kK S_123 14 = 0 := (aw_126.2.1 14 (lt35 (by decide)) (by decide)).2.trans kk_119
  have kk_136 : kK S_123 16 = 0 := (aw_126.2.1 16 (lt35 (by decide)) (by decide)).2.trans kk_120
  have kk_137 : kK S_123 17 = 0 := (aw_126.2.1 17 (lt35 (by decide)) (by decide)).2.trans kk_121
  have kk_138 : kK S_123 18 = 0 := by rw [hw_124]; exact uR_K.trans (rcut_0 _ (by have := hC0.2 18 (lt35 (by decide)); have := lim_le 18; omega))
  have ty0 : TY S_123 0 0 0 0 0 0 := ⟨⟨kk_127, kk_128, kk_129, kk_130, kk_136, kk_135, kk_131, kk_132, kk_133, kk_134, kk_137, kk_138⟩, ⟨by decide, by decide, Nat.zero_le _, by decide⟩, fun t ht => absurd ht (Nat.not_lt_zero _), fun t ht => absurd ht (Nat.not_lt_zero _), fun t ht => absurd ht (Nat.not_lt_zero _)⟩
  refine lv_aload_n hx hb dX4_startAnew_96 rfl (lv_at hl 0 rfl) ?_
  refine lv_iconst (v := 0) hx hb dX4_startAnew_97 (by decide) ?_
  refine lv_iconst (v := 0) hx hb dX4_startAnew_98 (by decide) ?_
  refine lv_bipush (v := (-9)) hx hb dX4_startAnew_99 (by decide) ?_
  refine lv_bipush (v := (-9)) hx hb dX4_startAnew_101 (by decide) ?_
  have hC0 := hC
  refine c_ci (c_runV (As := [.int 0, .int 0, .int ((-9)), .int ((-9))]) (rest := []) (q0 := 2) (ci := 4) ⟨hx, hb, hml, hown, htu⟩ (y_addType l G S_123 0 0 0 0 0 0 0 0 0 ((-9)) ((-9)) hC ty0 ((Nat.le_refl _)) ((fun h => absurd h (by decide))) ((fun h => absurd h (by decide))) ((Or.inr (Or.inr (Or.inr (by decide))))) H) (cwV 4 htu hU_X4_65 rfl rfl rfl (by decide +kernel) ⟨Nat.le_of_ble_eq_true rfl, Nat.le_of_ble_eq_true rfl⟩) hP hK hD hC hpp cw_2 rfl rfl hl.1 rfl (lv_room (Nat.le_of_ble_eq_true rfl)) dX4_startAnew_103) hS hD hh hpp (fun r_139 S_140 H locs hw_141 hP hD hS hC hh hs_142 hpp => ?_)
  try dsimp only at hw_141
  have aw_143 : AW [6, 7, 8, 9, 16] [] S_123 S_140 := hw_141.1
  have aw_143t : AW [6, 7, 8, 9, 16, 14, 10, 11, 12, 13, 17, 18] [] S S_140 := aw_126t.tr (aw_143.mono (by decide) (by decide))
  have kk_144 : kK S_140 10 = 0 := (aw_143.2.1 10 (lt35 (by decide)) (by decide)).2.trans kk_131
  have kk_145 : kK S_140 11 = 0 := (aw_143.2.1 11 (lt35 (by decide)) (by decide)).2.trans kk_132
  have kk_146 : kK S_140 12 = 0 := (aw_143.2.1 12 (lt35 (by decide)) (by decide)).2.trans kk_133
  have kk_147 : kK S_140 13 = 0 := (aw_143.2.1 13 (lt35 (by decide)) (by decide)).2.trans kk_134
  have kk_148 : kK S_140 14 = 0 := (aw_143.2.1 14 (lt35 (by decide)) (by decide)).2.trans kk_135
  have kk_149 : kK S_140 17 = 0 := (aw_143.2.1 17 (lt35 (by decide)) (by decide)).2.trans kk_137
  have kk_150 : kK S_140 18 = 0 := (aw_143.2.1 18 (lt35 (by decide)) (by decide)).2.trans kk_138
  rcases hw_141.2 with ⟨ty_151v, ty_151s, ty_151t⟩ | ⟨ty_151v, ty_151t, ty_151, -⟩
  · exact absurd ty_151t (by decide)
  · skip
    subst ty_151v
    refine lv_pop hx hb dX4_startAnew_106 rfl ?_
    refine lv_aload_n hx hb dX4_startAnew_107 rfl (lv_at hl 0 rfl) ?_
    refine lv_iconst (v := 1) hx hb dX4_startAnew_108 (by decide) ?_
    refine lv_iconst (v := 0) hx hb dX4_startAnew_109 (by decide) ?_
    refine lv_bipush (v := (-9)) hx hb dX4_startAnew_110 (by decide) ?_
    refine lv_bipush (v := (-9)) hx hb dX4_startAnew_112 (by decide) ?_
    have hC0 := hC
    refine c_ci (c_runV (As := [.int 1, .int 0, .int ((-9)), .int ((-9))]) (rest := []) (q0 := 2) (ci := 4) ⟨hx, hb, hml, hown, htu⟩ (y_addType l G S_140 1 0 0 0 0 0 0 1 0 ((-9)) ((-9)) hC ty_151 ((Nat.le_refl _)) ((fun h => absurd h (by decide))) ((fun h => absurd h (by decide))) ((Or.inr (Or.inr (Or.inr (by decide))))) H) (cwV 4 htu hU_X4_65 rfl rfl rfl (by decide +kernel) ⟨Nat.le_of_ble_eq_true rfl, Nat.le_of_ble_eq_true rfl⟩) hP hK hD hC hpp cw_2 rfl rfl hl.1 rfl (lv_room (Nat.le_of_ble_eq_true rfl)) dX4_startAnew_114) hS hD hh hpp (fun r_152 S_153 H locs hw_154 hP hD hS hC hh hs_155 hpp => ?_)
    try dsimp only at hw_154
    have aw_156 : AW [6, 7, 8, 9, 16] [] S_140 S_153 := hw_154.1
    have aw_156t : AW [6, 7, 8, 9, 16, 14, 10, 11, 12, 13, 17, 18] [] S S_153 := aw_143t.tr (aw_156.mono (by decide) (by decide))
    have kk_157 : kK S_153 10 = 0 := (aw_156.2.1 10 (lt35 (by decide)) (by decide)).2.trans kk_144
    have kk_158 : kK S_153 11 = 0 := (aw_156.2.1 11 (lt35 (by decide)) (by decide)).2.trans kk_145
    have kk_159 : kK S_153 12 = 0 := (aw_156.2.1 12 (lt35 (by decide)) (by decide)).2.trans kk_146
    have kk_160 : kK S_153 13 = 0 := (aw_156.2.1 13 (lt35 (by decide)) (by decide)).2.trans kk_147
    have kk_161 : kK S_153 14 = 0 := (aw_156.2.1 14 (lt35 (by decide)) (by decide)).2.trans kk_148
    have kk_162 : kK S_153 17 = 0 := (aw_156.2.1 17 (lt35 (by decide)) (by decide)).2.trans kk_149
    have kk_163 : kK S_153 18 = 0 := (aw_156.2.1 18 (lt35 (by decide)) (by decide)).2.trans kk_150
    rcases hw_154.2 with ⟨ty_164v, ty_164s, ty_164t⟩ | ⟨ty_164v, ty_164t, ty_164, -⟩
    · exact absurd ty_164t (by decide)
    · skip
      subst ty_164v
      refine lv_pop hx hb dX4_startAnew_117 rfl ?_
      exact c_vret hx hb hr hK hP hD hS hC hh hpp ⟨aw_156t, ty_164⟩ dX4_startAnew_118 hlocks

