theorem dX4_boundsOf_0 : decode cX4_boundsOf 0 = .ok (.iconst 2, 1) := by decide +kernel
theorem dX4_boundsOf_1 : decode cX4_boundsOf 1 = .ok (.aload_n 0, 1) := by decide +kernel
theorem dX4_boundsOf_2 : decode cX4_boundsOf 2 = .ok (.getfield 21, 3) := by decide +kernel
theorem dX4_boundsOf_5 : decode cX4_boundsOf 5 = .ok (.iload_n 1, 1) := by decide +kernel
theorem dX4_boundsOf_6 : decode cX4_boundsOf 6 = .ok (.invokevirtual 89, 3) := by decide +kernel
theorem dX4_boundsOf_9 : decode cX4_boundsOf 9 = .ok (.imul, 1) := by decide +kernel
theorem dX4_boundsOf_10 : decode cX4_boundsOf 10 = .ok (.iload_n 2, 1) := by decide +kernel
theorem dX4_boundsOf_11 : decode cX4_boundsOf 11 = .ok (.iadd, 1) := by decide +kernel
theorem dX4_boundsOf_12 : decode cX4_boundsOf 12 = .ok (.istore_n 3, 1) := by decide +kernel
theorem dX4_boundsOf_13 : decode cX4_boundsOf 13 = .ok (.aload_n 0, 1) := by decide +kernel
theorem dX4_boundsOf_14 : decode cX4_boundsOf 14 = .ok (.getfield 12, 3) := by decide +kernel
theorem dX4_boundsOf_17 : decode cX4_boundsOf 17 = .ok (.iload_n 1, 1) := by decide +kernel
theorem dX4_boundsOf_18 : decode cX4_boundsOf 18 = .ok (.invokevirtual 89, 3) := by decide +kernel
theorem dX4_boundsOf_21 : decode cX4_boundsOf 21 = .ok (.iconst 4, 1) := by decide +kernel
theorem dX4_boundsOf_22 : decode cX4_boundsOf 22 = .ok (.if_icmp .ne 16, 3) := by decide +kernel
theorem dX4_boundsOf_38 : decode cX4_boundsOf 38 = .ok (.aload_n 0, 1) := by decide +kernel
theorem dX4_boundsOf_39 : decode cX4_boundsOf 39 = .ok (.getfield 46, 3) := by decide +kernel
theorem dX4_boundsOf_42 : decode cX4_boundsOf 42 = .ok (.areturn, 1) := by decide +kernel
theorem dX4_boundsOf_25 : decode cX4_boundsOf 25 = .ok (.iload_n 3, 1) := by decide +kernel
theorem dX4_boundsOf_26 : decode cX4_boundsOf 26 = .ok (.ifCond .lt 12, 3) := by decide +kernel
theorem dX4_boundsOf_29 : decode cX4_boundsOf 29 = .ok (.iload_n 3, 1) := by decide +kernel
theorem dX4_boundsOf_30 : decode cX4_boundsOf 30 = .ok (.aload_n 0, 1) := by decide +kernel
theorem dX4_boundsOf_31 : decode cX4_boundsOf 31 = .ok (.getfield 42, 3) := by decide +kernel
theorem dX4_boundsOf_34 : decode cX4_boundsOf 34 = .ok (.arraylength, 1) := by decide +kernel
theorem dX4_boundsOf_35 : decode cX4_boundsOf 35 = .ok (.if_icmp .lt 8, 3) := by decide +kernel
theorem dX4_boundsOf_43 : decode cX4_boundsOf 43 = .ok (.aload_n 0, 1) := by decide +kernel
theorem dX4_boundsOf_44 : decode cX4_boundsOf 44 = .ok (.getfield 42, 3) := by decide +kernel
theorem dX4_boundsOf_47 : decode cX4_boundsOf 47 = .ok (.iload_n 3, 1) := by decide +kernel
theorem dX4_boundsOf_48 : decode cX4_boundsOf 48 = .ok (.aaload, 1) := by decide +kernel
theorem dX4_boundsOf_49 : decode cX4_boundsOf 49 = .ok (.astore 4, 2) := by decide +kernel
theorem dX4_boundsOf_51 : decode cX4_boundsOf 51 = .ok (.aload 4, 2) := by decide +kernel
theorem dX4_boundsOf_53 : decode cX4_boundsOf 53 = .ok (.ifnonnull 10, 3) := by decide +kernel
theorem dX4_boundsOf_63 : decode cX4_boundsOf 63 = .ok (.aload 4, 2) := by decide +kernel
theorem dX4_boundsOf_65 : decode cX4_boundsOf 65 = .ok (.areturn, 1) := by decide +kernel
theorem dX4_partBy_0 : decode cX4_partBy 0 = .ok (.aload_n 0, 1) := by decide +kernel
theorem dX4_partBy_1 : decode cX4_partBy 1 = .ok (.iload_n 1, 1) := by decide +kernel
theorem dX4_partBy_2 : decode cX4_partBy 2 = .ok (.invokevirtual 92, 3) := by decide +kernel
theorem dX4_partBy_5 : decode cX4_partBy 5 = .ok (.istore_n 3, 1) := by decide +kernel
theorem dX4_partBy_6 : decode cX4_partBy 6 = .ok (.iconst 0, 1) := by decide +kernel
theorem dX4_partBy_7 : decode cX4_partBy 7 = .ok (.istore 4, 2) := by decide +kernel
theorem dX4_partBy_9 : decode cX4_partBy 9 = .ok (.iload 4, 2) := by decide +kernel
theorem dX4_partBy_11 : decode cX4_partBy 11 = .ok (.iload_n 3, 1) := by decide +kernel
theorem dX4_partBy_12 : decode cX4_partBy 12 = .ok (.if_icmp .ge 28, 3) := by decide +kernel
theorem dX4_partBy_40 : decode cX4_partBy 40 = .ok (.bipush (-9), 2) := by decide +kernel
theorem dX4_partBy_42 : decode cX4_partBy 42 = .ok (.ireturn, 1) := by decide +kernel
theorem dX4_partBy_15 : decode cX4_partBy 15 = .ok (.aload_n 0, 1) := by decide +kernel
theorem dX4_partBy_16 : decode cX4_partBy 16 = .ok (.iload_n 1, 1) := by decide +kernel
theorem dX4_partBy_17 : decode cX4_partBy 17 = .ok (.iload 4, 2) := by decide +kernel
theorem dX4_partBy_19 : decode cX4_partBy 19 = .ok (.invokevirtual 95, 3) := by decide +kernel
theorem dX4_partBy_22 : decode cX4_partBy 22 = .ok (.iload_n 2, 1) := by decide +kernel
theorem dX4_partBy_23 : decode cX4_partBy 23 = .ok (.if_icmp .ne 11, 3) := by decide +kernel
theorem dX4_partBy_34 : decode cX4_partBy 34 = .ok (.iinc 4 1, 3) := by decide +kernel
theorem dX4_partBy_37 : decode cX4_partBy 37 = .ok (.goto (-28), 3) := by decide +kernel
theorem dX4_partBy_26 : decode cX4_partBy 26 = .ok (.aload_n 0, 1) := by decide +kernel
theorem dX4_partBy_27 : decode cX4_partBy 27 = .ok (.iload_n 1, 1) := by decide +kernel
theorem dX4_partBy_28 : decode cX4_partBy 28 = .ok (.iload 4, 2) := by decide +kernel
theorem dX4_partBy_30 : decode cX4_partBy 30 = .ok (.invokevirtual 98, 3) := by decide +kernel
theorem dX4_partBy_33 : decode cX4_partBy 33 = .ok (.ireturn, 1) := by decide +kernel
theorem dX4_wasAsked_0 : decode cX4_wasAsked 0 = .ok (.aload_n 0, 1) := by decide +kernel
theorem dX4_wasAsked_1 : decode cX4_wasAsked 1 = .ok (.getfield 52, 3) := by decide +kernel
theorem dX4_wasAsked_4 : decode cX4_wasAsked 4 = .ok (.getfield 69, 3) := by decide +kernel
theorem dX4_wasAsked_7 : decode cX4_wasAsked 7 = .ok (.istore_n 3, 1) := by decide +kernel
theorem dX4_wasAsked_8 : decode cX4_wasAsked 8 = .ok (.aload_n 0, 1) := by decide +kernel
theorem dX4_wasAsked_9 : decode cX4_wasAsked 9 = .ok (.getfield 49, 3) := by decide +kernel
theorem dX4_wasAsked_12 : decode cX4_wasAsked 12 = .ok (.iload_n 1, 1) := by decide +kernel
theorem dX4_wasAsked_13 : decode cX4_wasAsked 13 = .ok (.invokevirtual 89, 3) := by decide +kernel
theorem dX4_wasAsked_16 : decode cX4_wasAsked 16 = .ok (.istore 4, 2) := by decide +kernel
theorem dX4_wasAsked_18 : decode cX4_wasAsked 18 = .ok (.iload 4, 2) := by decide +kernel
theorem dX4_wasAsked_20 : decode cX4_wasAsked 20 = .ok (.istore 5, 2) := by decide +kernel
theorem dX4_wasAsked_22 : decode cX4_wasAsked 22 = .ok (.iconst 0, 1) := by decide +kernel
theorem dX4_wasAsked_23 : decode cX4_wasAsked 23 = .ok (.istore 6, 2) := by decide +kernel
theorem dX4_wasAsked_25 : decode cX4_wasAsked 25 = .ok (.iload 6, 2) := by decide +kernel
theorem dX4_wasAsked_27 : decode cX4_wasAsked 27 = .ok (.iload_n 3, 1) := by decide +kernel
theorem dX4_wasAsked_28 : decode cX4_wasAsked 28 = .ok (.if_icmp .ge 42, 3) := by decide +kernel
theorem dX4_wasAsked_70 : decode cX4_wasAsked 70 = .ok (.aload_n 0, 1) := by decide +kernel
theorem dX4_wasAsked_71 : decode cX4_wasAsked 71 = .ok (.getfield 52, 3) := by decide +kernel
theorem dX4_wasAsked_74 : decode cX4_wasAsked 74 = .ok (.iload_n 2, 1) := by decide +kernel
theorem dX4_wasAsked_75 : decode cX4_wasAsked 75 = .ok (.invokevirtual 73, 3) := by decide +kernel
theorem dX4_wasAsked_78 : decode cX4_wasAsked 78 = .ok (.aload_n 0, 1) := by decide +kernel
theorem dX4_wasAsked_79 : decode cX4_wasAsked 79 = .ok (.getfield 55, 3) := by decide +kernel
theorem dX4_wasAsked_82 : decode cX4_wasAsked 82 = .ok (.iload 4, 2) := by decide +kernel
theorem dX4_wasAsked_84 : decode cX4_wasAsked 84 = .ok (.invokevirtual 73, 3) := by decide +kernel
theorem dX4_wasAsked_87 : decode cX4_wasAsked 87 = .ok (.aload_n 0, 1) := by decide +kernel
theorem dX4_wasAsked_88 : decode cX4_wasAsked 88 = .ok (.getfield 49, 3) := by decide +kernel
theorem dX4_wasAsked_91 : decode cX4_wasAsked 91 = .ok (.iload_n 1, 1) := by decide +kernel
theorem dX4_wasAsked_92 : decode cX4_wasAsked 92 = .ok (.iload_n 3, 1) := by decide +kernel
theorem dX4_wasAsked_93 : decode cX4_wasAsked 93 = .ok (.invokevirtual 101, 3) := by decide +kernel
theorem dX4_wasAsked_96 : decode cX4_wasAsked 96 = .ok (.iconst 0, 1) := by decide +kernel
theorem dX4_wasAsked_97 : decode cX4_wasAsked 97 = .ok (.ireturn, 1) := by decide +kernel
theorem dX4_wasAsked_31 : decode cX4_wasAsked 31 = .ok (.iload 5, 2) := by decide +kernel
theorem dX4_wasAsked_33 : decode cX4_wasAsked 33 = .ok (.bipush (-9), 2) := by decide +kernel
theorem dX4_wasAsked_35 : decode cX4_wasAsked 35 = .ok (.if_icmp .eq 35, 3) := by decide +kernel
theorem dX4_wasAsked_38 : decode cX4_wasAsked 38 = .ok (.aload_n 0, 1) := by decide +kernel
theorem dX4_wasAsked_39 : decode cX4_wasAsked 39 = .ok (.getfield 52, 3) := by decide +kernel
theorem dX4_wasAsked_42 : decode cX4_wasAsked 42 = .ok (.iload 5, 2) := by decide +kernel
theorem dX4_wasAsked_44 : decode cX4_wasAsked 44 = .ok (.invokevirtual 89, 3) := by decide +kernel
theorem dX4_wasAsked_47 : decode cX4_wasAsked 47 = .ok (.iload_n 2, 1) := by decide +kernel
theorem dX4_wasAsked_48 : decode cX4_wasAsked 48 = .ok (.if_icmp .ne 5, 3) := by decide +kernel
theorem dX4_wasAsked_53 : decode cX4_wasAsked 53 = .ok (.aload_n 0, 1) := by decide +kernel
theorem dX4_wasAsked_54 : decode cX4_wasAsked 54 = .ok (.getfield 55, 3) := by decide +kernel
theorem dX4_wasAsked_57 : decode cX4_wasAsked 57 = .ok (.iload 5, 2) := by decide +kernel
theorem dX4_wasAsked_59 : decode cX4_wasAsked 59 = .ok (.invokevirtual 89, 3) := by decide +kernel
theorem dX4_wasAsked_62 : decode cX4_wasAsked 62 = .ok (.istore 5, 2) := by decide +kernel
theorem dX4_wasAsked_64 : decode cX4_wasAsked 64 = .ok (.iinc 6 1, 3) := by decide +kernel
theorem dX4_wasAsked_67 : decode cX4_wasAsked 67 = .ok (.goto (-42), 3) := by decide +kernel
theorem dX4_wasAsked_51 : decode cX4_wasAsked 51 = .ok (.iconst 1, 1) := by decide +kernel
theorem dX4_wasAsked_52 : decode cX4_wasAsked 52 = .ok (.ireturn, 1) := by decide +kernel
theorem dX4_addRecord_0 : decode cX4_addRecord 0 = .ok (.iconst 0, 1) := by decide +kernel
theorem dX4_addRecord_1 : decode cX4_addRecord 1 = .ok (.istore_n 2, 1) := by decide +kernel
theorem dX4_addRecord_2 : decode cX4_addRecord 2 = .ok (.aload_n 0, 1) := by decide +kernel
theorem dX4_addRecord_3 : decode cX4_addRecord 3 = .ok (.getfield 36, 3) := by decide +kernel
theorem dX4_addRecord_6 : decode cX4_addRecord 6 = .ok (.getfield 69, 3) := by decide +kernel
theorem dX4_addRecord_9 : decode cX4_addRecord 9 = .ok (.istore_n 3, 1) := by decide +kernel
theorem dX4_addRecord_10 : decode cX4_addRecord 10 = .ok (.iload_n 1, 1) := by decide +kernel
theorem dX4_addRecord_11 : decode cX4_addRecord 11 = .ok (.istore 4, 2) := by decide +kernel
theorem dX4_addRecord_13 : decode cX4_addRecord 13 = .ok (.iload 4, 2) := by decide +kernel
theorem dX4_addRecord_15 : decode cX4_addRecord 15 = .ok (.iload_n 3, 1) := by decide +kernel
theorem dX4_addRecord_16 : decode cX4_addRecord 16 = .ok (.if_icmp .ge 27, 3) := by decide +kernel
theorem dX4_addRecord_43 : decode cX4_addRecord 43 = .ok (.aload_n 0, 1) := by decide +kernel
theorem dX4_addRecord_44 : decode cX4_addRecord 44 = .ok (.iconst 3, 1) := by decide +kernel
theorem dX4_addRecord_45 : decode cX4_addRecord 45 = .ok (.iload_n 2, 1) := by decide +kernel
theorem dX4_addRecord_46 : decode cX4_addRecord 46 = .ok (.aload_n 0, 1) := by decide +kernel
theorem dX4_addRecord_47 : decode cX4_addRecord 47 = .ok (.getfield 30, 3) := by decide +kernel
theorem dX4_addRecord_50 : decode cX4_addRecord 50 = .ok (.getfield 69, 3) := by decide +kernel
theorem dX4_addRecord_53 : decode cX4_addRecord 53 = .ok (.iload_n 3, 1) := by decide +kernel
theorem dX4_addRecord_54 : decode cX4_addRecord 54 = .ok (.iload_n 1, 1) := by decide +kernel
theorem dX4_addRecord_55 : decode cX4_addRecord 55 = .ok (.isub, 1) := by decide +kernel
theorem dX4_addRecord_56 : decode cX4_addRecord 56 = .ok (.invokevirtual 65, 3) := by decide +kernel
theorem dX4_addRecord_59 : decode cX4_addRecord 59 = .ok (.istore 4, 2) := by decide +kernel
theorem dX4_addRecord_61 : decode cX4_addRecord 61 = .ok (.iload 4, 2) := by decide +kernel
theorem dX4_addRecord_63 : decode cX4_addRecord 63 = .ok (.ifCond .ge 6, 3) := by decide +kernel
theorem dX4_addRecord_66 : decode cX4_addRecord 66 = .ok (.iload 4, 2) := by decide +kernel
theorem dX4_addRecord_68 : decode cX4_addRecord 68 = .ok (.ireturn, 1) := by decide +kernel
theorem dX4_addRecord_69 : decode cX4_addRecord 69 = .ok (.iload_n 1, 1) := by decide +kernel
theorem dX4_addRecord_70 : decode cX4_addRecord 70 = .ok (.istore 5, 2) := by decide +kernel
theorem dX4_addRecord_72 : decode cX4_addRecord 72 = .ok (.iload 5, 2) := by decide +kernel
theorem dX4_addRecord_74 : decode cX4_addRecord 74 = .ok (.iload_n 3, 1) := by decide +kernel
theorem dX4_addRecord_75 : decode cX4_addRecord 75 = .ok (.if_icmp .ge 41, 3) := by decide +kernel
theorem dX4_addRecord_116 : decode cX4_addRecord 116 = .ok (.aload_n 0, 1) := by decide +kernel
theorem dX4_addRecord_117 : decode cX4_addRecord 117 = .ok (.getfield 33, 3) := by decide +kernel
theorem dX4_addRecord_120 : decode cX4_addRecord 120 = .ok (.iload_n 1, 1) := by decide +kernel
theorem dX4_addRecord_121 : decode cX4_addRecord 121 = .ok (.invokevirtual 61, 3) := by decide +kernel
theorem dX4_addRecord_124 : decode cX4_addRecord 124 = .ok (.aload_n 0, 1) := by decide +kernel
theorem dX4_addRecord_125 : decode cX4_addRecord 125 = .ok (.getfield 36, 3) := by decide +kernel
theorem dX4_addRecord_128 : decode cX4_addRecord 128 = .ok (.iload_n 1, 1) := by decide +kernel
theorem dX4_addRecord_129 : decode cX4_addRecord 129 = .ok (.invokevirtual 61, 3) := by decide +kernel
theorem dX4_addRecord_132 : decode cX4_addRecord 132 = .ok (.iload 4, 2) := by decide +kernel
theorem dX4_addRecord_134 : decode cX4_addRecord 134 = .ok (.ireturn, 1) := by decide +kernel
theorem dX4_addRecord_78 : decode cX4_addRecord 78 = .ok (.aload_n 0, 1) := by decide +kernel
theorem dX4_addRecord_79 : decode cX4_addRecord 79 = .ok (.getfield 27, 3) := by decide +kernel
theorem dX4_addRecord_82 : decode cX4_addRecord 82 = .ok (.aload_n 0, 1) := by decide +kernel
theorem dX4_addRecord_83 : decode cX4_addRecord 83 = .ok (.getfield 33, 3) := by decide +kernel
theorem dX4_addRecord_86 : decode cX4_addRecord 86 = .ok (.iload 5, 2) := by decide +kernel
theorem dX4_addRecord_88 : decode cX4_addRecord 88 = .ok (.invokevirtual 89, 3) := by decide +kernel
theorem dX4_addRecord_91 : decode cX4_addRecord 91 = .ok (.invokevirtual 73, 3) := by decide +kernel
theorem dX4_addRecord_94 : decode cX4_addRecord 94 = .ok (.aload_n 0, 1) := by decide +kernel
theorem dX4_addRecord_95 : decode cX4_addRecord 95 = .ok (.getfield 30, 3) := by decide +kernel
theorem dX4_addRecord_98 : decode cX4_addRecord 98 = .ok (.aload_n 0, 1) := by decide +kernel
theorem dX4_addRecord_99 : decode cX4_addRecord 99 = .ok (.getfield 36, 3) := by decide +kernel
theorem dX4_addRecord_102 : decode cX4_addRecord 102 = .ok (.iload 5, 2) := by decide +kernel
theorem dX4_addRecord_104 : decode cX4_addRecord 104 = .ok (.invokevirtual 89, 3) := by decide +kernel
theorem dX4_addRecord_107 : decode cX4_addRecord 107 = .ok (.invokevirtual 73, 3) := by decide +kernel
theorem dX4_addRecord_110 : decode cX4_addRecord 110 = .ok (.iinc 5 1, 3) := by decide +kernel
theorem dX4_addRecord_113 : decode cX4_addRecord 113 = .ok (.goto (-41), 3) := by decide +kernel
theorem dX4_addRecord_19 : decode cX4_addRecord 19 = .ok (.iload_n 2, 1) := by decide +kernel
theorem dX4_addRecord_20 : decode cX4_addRecord 20 = .ok (.aload_n 0, 1) := by decide +kernel
theorem dX4_addRecord_21 : decode cX4_addRecord 21 = .ok (.aload_n 0, 1) := by decide +kernel
theorem dX4_addRecord_22 : decode cX4_addRecord 22 = .ok (.getfield 36, 3) := by decide +kernel
theorem dX4_addRecord_25 : decode cX4_addRecord 25 = .ok (.iload 4, 2) := by decide +kernel
theorem dX4_addRecord_27 : decode cX4_addRecord 27 = .ok (.invokevirtual 89, 3) := by decide +kernel
theorem dX4_addRecord_30 : decode cX4_addRecord 30 = .ok (.invokevirtual 79, 3) := by decide +kernel
theorem dX4_addRecord_33 : decode cX4_addRecord 33 = .ok (.invokestatic 83, 3) := by decide +kernel
theorem dX4_addRecord_36 : decode cX4_addRecord 36 = .ok (.istore_n 2, 1) := by decide +kernel
theorem dX4_addRecord_37 : decode cX4_addRecord 37 = .ok (.iinc 4 1, 3) := by decide +kernel
theorem dX4_addRecord_40 : decode cX4_addRecord 40 = .ok (.goto (-27), 3) := by decide +kernel
theorem dX4_addVariable_0 : decode cX4_addVariable 0 = .ok (.aload_n 0, 1) := by decide +kernel
theorem dX4_addVariable_1 : decode cX4_addVariable 1 = .ok (.getfield 39, 3) := by decide +kernel
theorem dX4_addVariable_4 : decode cX4_addVariable 4 = .ok (.getfield 69, 3) := by decide +kernel
theorem dX4_addVariable_7 : decode cX4_addVariable 7 = .ok (.istore_n 2, 1) := by decide +kernel
theorem dX4_addVariable_8 : decode cX4_addVariable 8 = .ok (.iload_n 2, 1) := by decide +kernel
theorem dX4_addVariable_9 : decode cX4_addVariable 9 = .ok (.sipush 150, 3) := by decide +kernel
theorem dX4_addVariable_12 : decode cX4_addVariable 12 = .ok (.if_icmp .lt 6, 3) := by decide +kernel
theorem dX4_addVariable_18 : decode cX4_addVariable 18 = .ok (.aload_n 0, 1) := by decide +kernel
theorem dX4_addVariable_19 : decode cX4_addVariable 19 = .ok (.iconst 4, 1) := by decide +kernel
theorem dX4_addVariable_20 : decode cX4_addVariable 20 = .ok (.iload_n 1, 1) := by decide +kernel
theorem dX4_addVariable_21 : decode cX4_addVariable 21 = .ok (.iload_n 2, 1) := by decide +kernel
theorem dX4_addVariable_22 : decode cX4_addVariable 22 = .ok (.bipush (-9), 2) := by decide +kernel
theorem dX4_addVariable_24 : decode cX4_addVariable 24 = .ok (.invokevirtual 65, 3) := by decide +kernel
theorem dX4_addVariable_27 : decode cX4_addVariable 27 = .ok (.istore_n 3, 1) := by decide +kernel
theorem dX4_addVariable_28 : decode cX4_addVariable 28 = .ok (.iload_n 3, 1) := by decide +kernel
theorem dX4_addVariable_29 : decode cX4_addVariable 29 = .ok (.ifCond .ge 5, 3) := by decide +kernel
theorem dX4_addVariable_32 : decode cX4_addVariable 32 = .ok (.iload_n 3, 1) := by decide +kernel
theorem dX4_addVariable_33 : decode cX4_addVariable 33 = .ok (.ireturn, 1) := by decide +kernel
theorem dX4_addVariable_34 : decode cX4_addVariable 34 = .ok (.aload_n 0, 1) := by decide +kernel
theorem dX4_addVariable_35 : decode cX4_addVariable 35 = .ok (.getfield 39, 3) := by decide +kernel
theorem dX4_addVariable_38 : decode cX4_addVariable 38 = .ok (.iload_n 3, 1) := by decide +kernel
theorem dX4_addVariable_39 : decode cX4_addVariable 39 = .ok (.invokevirtual 73, 3) := by decide +kernel
theorem dX4_addVariable_42 : decode cX4_addVariable 42 = .ok (.aload_n 0, 1) := by decide +kernel
theorem dX4_addVariable_43 : decode cX4_addVariable 43 = .ok (.iconst 2, 1) := by decide +kernel
theorem dX4_addVariable_44 : decode cX4_addVariable 44 = .ok (.iload_n 2, 1) := by decide +kernel
theorem dX4_addVariable_45 : decode cX4_addVariable 45 = .ok (.imul, 1) := by decide +kernel
theorem dX4_addVariable_46 : decode cX4_addVariable 46 = .ok (.iconst 0, 1) := by decide +kernel
theorem dX4_addVariable_47 : decode cX4_addVariable 47 = .ok (.iadd, 1) := by decide +kernel
theorem dX4_addVariable_48 : decode cX4_addVariable 48 = .ok (.invokevirtual 76, 3) := by decide +kernel
theorem dX4_addVariable_51 : decode cX4_addVariable 51 = .ok (.aload_n 0, 1) := by decide +kernel
theorem dX4_addVariable_52 : decode cX4_addVariable 52 = .ok (.iconst 2, 1) := by decide +kernel
theorem dX4_addVariable_53 : decode cX4_addVariable 53 = .ok (.iload_n 2, 1) := by decide +kernel
theorem dX4_addVariable_54 : decode cX4_addVariable 54 = .ok (.imul, 1) := by decide +kernel
theorem dX4_addVariable_55 : decode cX4_addVariable 55 = .ok (.iconst 1, 1) := by decide +kernel
theorem dX4_addVariable_56 : decode cX4_addVariable 56 = .ok (.iadd, 1) := by decide +kernel
theorem dX4_addVariable_57 : decode cX4_addVariable 57 = .ok (.invokevirtual 76, 3) := by decide +kernel
theorem dX4_addVariable_60 : decode cX4_addVariable 60 = .ok (.iload_n 3, 1) := by decide +kernel
theorem dX4_addVariable_61 : decode cX4_addVariable 61 = .ok (.ireturn, 1) := by decide +kernel
theorem dX4_addVariable_15 : decode cX4_addVariable 15 = .ok (.bipush (-6), 2) := by decide +kernel
theorem dX4_addVariable_17 : decode cX4_addVariable 17 = .ok (.ireturn, 1) := by decide +kernel
theorem dX4_startAnew_0 : decode cX4_startAnew 0 = .ok (.aload_n 0, 1) := by decide +kernel
theorem dX4_startAnew_1 : decode cX4_startAnew 1 = .ok (.getfield 12, 3) := by decide +kernel
theorem dX4_startAnew_4 : decode cX4_startAnew 4 = .ok (.iconst 0, 1) := by decide +kernel
theorem dX4_startAnew_5 : decode cX4_startAnew 5 = .ok (.invokevirtual 61, 3) := by decide +kernel
theorem dX4_startAnew_8 : decode cX4_startAnew 8 = .ok (.aload_n 0, 1) := by decide +kernel
theorem dX4_startAnew_9 : decode cX4_startAnew 9 = .ok (.getfield 18, 3) := by decide +kernel
theorem dX4_startAnew_12 : decode cX4_startAnew 12 = .ok (.iconst 0, 1) := by decide +kernel
theorem dX4_startAnew_13 : decode cX4_startAnew 13 = .ok (.invokevirtual 61, 3) := by decide +kernel
theorem dX4_startAnew_16 : decode cX4_startAnew 16 = .ok (.aload_n 0, 1) := by decide +kernel
theorem dX4_startAnew_17 : decode cX4_startAnew 17 = .ok (.getfield 21, 3) := by decide +kernel
theorem dX4_startAnew_20 : decode cX4_startAnew 20 = .ok (.iconst 0, 1) := by decide +kernel
theorem dX4_startAnew_21 : decode cX4_startAnew 21 = .ok (.invokevirtual 61, 3) := by decide +kernel
theorem dX4_startAnew_24 : decode cX4_startAnew 24 = .ok (.aload_n 0, 1) := by decide +kernel
theorem dX4_startAnew_25 : decode cX4_startAnew 25 = .ok (.getfield 24, 3) := by decide +kernel
theorem dX4_startAnew_28 : decode cX4_startAnew 28 = .ok (.iconst 0, 1) := by decide +kernel
theorem dX4_startAnew_29 : decode cX4_startAnew 29 = .ok (.invokevirtual 61, 3) := by decide +kernel
theorem dX4_startAnew_32 : decode cX4_startAnew 32 = .ok (.aload_n 0, 1) := by decide +kernel
theorem dX4_startAnew_33 : decode cX4_startAnew 33 = .ok (.getfield 27, 3) := by decide +kernel
theorem dX4_startAnew_36 : decode cX4_startAnew 36 = .ok (.iconst 0, 1) := by decide +kernel
theorem dX4_startAnew_37 : decode cX4_startAnew 37 = .ok (.invokevirtual 61, 3) := by decide +kernel
theorem dX4_startAnew_40 : decode cX4_startAnew 40 = .ok (.aload_n 0, 1) := by decide +kernel
theorem dX4_startAnew_41 : decode cX4_startAnew 41 = .ok (.getfield 30, 3) := by decide +kernel
theorem dX4_startAnew_44 : decode cX4_startAnew 44 = .ok (.iconst 0, 1) := by decide +kernel
theorem dX4_startAnew_45 : decode cX4_startAnew 45 = .ok (.invokevirtual 61, 3) := by decide +kernel
theorem dX4_startAnew_48 : decode cX4_startAnew 48 = .ok (.aload_n 0, 1) := by decide +kernel
theorem dX4_startAnew_49 : decode cX4_startAnew 49 = .ok (.getfield 33, 3) := by decide +kernel
theorem dX4_startAnew_52 : decode cX4_startAnew 52 = .ok (.iconst 0, 1) := by decide +kernel
theorem dX4_startAnew_53 : decode cX4_startAnew 53 = .ok (.invokevirtual 61, 3) := by decide +kernel
theorem dX4_startAnew_56 : decode cX4_startAnew 56 = .ok (.aload_n 0, 1) := by decide +kernel
theorem dX4_startAnew_57 : decode cX4_startAnew 57 = .ok (.getfield 36, 3) := by decide +kernel
theorem dX4_startAnew_60 : decode cX4_startAnew 60 = .ok (.iconst 0, 1) := by decide +kernel
theorem dX4_startAnew_61 : decode cX4_startAnew 61 = .ok (.invokevirtual 61, 3) := by decide +kernel
theorem dX4_startAnew_64 : decode cX4_startAnew 64 = .ok (.aload_n 0, 1) := by decide +kernel
theorem dX4_startAnew_65 : decode cX4_startAnew 65 = .ok (.getfield 39, 3) := by decide +kernel
theorem dX4_startAnew_68 : decode cX4_startAnew 68 = .ok (.iconst 0, 1) := by decide +kernel
theorem dX4_startAnew_69 : decode cX4_startAnew 69 = .ok (.invokevirtual 61, 3) := by decide +kernel
theorem dX4_startAnew_72 : decode cX4_startAnew 72 = .ok (.aload_n 0, 1) := by decide +kernel
theorem dX4_startAnew_73 : decode cX4_startAnew 73 = .ok (.getfield 49, 3) := by decide +kernel
theorem dX4_startAnew_76 : decode cX4_startAnew 76 = .ok (.iconst 0, 1) := by decide +kernel
theorem dX4_startAnew_77 : decode cX4_startAnew 77 = .ok (.invokevirtual 61, 3) := by decide +kernel
theorem dX4_startAnew_80 : decode cX4_startAnew 80 = .ok (.aload_n 0, 1) := by decide +kernel
theorem dX4_startAnew_81 : decode cX4_startAnew 81 = .ok (.getfield 52, 3) := by decide +kernel
theorem dX4_startAnew_84 : decode cX4_startAnew 84 = .ok (.iconst 0, 1) := by decide +kernel
theorem dX4_startAnew_85 : decode cX4_startAnew 85 = .ok (.invokevirtual 61, 3) := by decide +kernel
theorem dX4_startAnew_88 : decode cX4_startAnew 88 = .ok (.aload_n 0, 1) := by decide +kernel
theorem dX4_startAnew_89 : decode cX4_startAnew 89 = .ok (.getfield 55, 3) := by decide +kernel
theorem dX4_startAnew_92 : decode cX4_startAnew 92 = .ok (.iconst 0, 1) := by decide +kernel
theorem dX4_startAnew_93 : decode cX4_startAnew 93 = .ok (.invokevirtual 61, 3) := by decide +kernel
theorem dX4_startAnew_96 : decode cX4_startAnew 96 = .ok (.aload_n 0, 1) := by decide +kernel
theorem dX4_startAnew_97 : decode cX4_startAnew 97 = .ok (.iconst 0, 1) := by decide +kernel
theorem dX4_startAnew_98 : decode cX4_startAnew 98 = .ok (.iconst 0, 1) := by decide +kernel
theorem dX4_startAnew_99 : decode cX4_startAnew 99 = .ok (.bipush (-9), 2) := by decide +kernel
theorem dX4_startAnew_101 : decode cX4_startAnew 101 = .ok (.bipush (-9), 2) := by decide +kernel
theorem dX4_startAnew_103 : decode cX4_startAnew 103 = .ok (.invokevirtual 65, 3) := by decide +kernel
theorem dX4_startAnew_106 : decode cX4_startAnew 106 = .ok (.pop, 1) := by decide +kernel
theorem dX4_startAnew_107 : decode cX4_startAnew 107 = .ok (.aload_n 0, 1) := by decide +kernel
theorem dX4_startAnew_108 : decode cX4_startAnew 108 = .ok (.iconst 1, 1) := by decide +kernel
theorem dX4_startAnew_109 : decode cX4_startAnew 109 = .ok (.iconst 0, 1) := by decide +kernel
theorem dX4_startAnew_110 : decode cX4_startAnew 110 = .ok (.bipush (-9), 2) := by decide +kernel
theorem dX4_startAnew_112 : decode cX4_startAnew 112 = .ok (.bipush (-9), 2) := by decide +kernel
theorem dX4_startAnew_114 : decode cX4_startAnew 114 = .ok (.invokevirtual 65, 3) := by decide +kernel
theorem dX4_startAnew_117 : decode cX4_startAnew 117 = .ok (.pop, 1) := by decide +kernel
theorem dX4_startAnew_118 : decode cX4_startAnew 118 = .ok (.return_, 1) := by decide +kernel
theorem TY.put {S u : cS} {rs : List Nat} {T V VP X Y Z X' Y' Z' : Nat} (h : TY S T V VP X Y Z) (a : AW rs [] S u) (hr : ∀ r ∈ [6, 7, 8, 9, 14, 16], r ∉ rs) (h10 : kK u 10 = X') (h11 : kK u 11 = X') (h12 : kK u 12 = Y') (h13 : kK u 13 = Y') (h17 : kK u 17 = Z') (h18 : kK u 18 = Z') (hx : X' ≤ 6 * T) : TY u T V VP X' Y' Z' := by
  obtain ⟨⟨a1, a2, a3, a4, a5, a6, a7, a8, a9, a10, a11, a12⟩, ⟨b1, b2, b3, b4⟩, c, d, d2⟩ := h
  have k : ∀ r, r < 35 → r ∈ [6, 7, 8, 9, 14, 16] → kF u r = kF S r ∧ kK u r = kK S r := fun r h1 h2 => a.2.1 r (by omega) (by rw [Nat.min_eq_left (by omega)]; exact hr r h2)
  refine ⟨⟨(k 6 (by decide) (by decide)).2.trans a1, (k 7 (by decide) (by decide)).2.trans a2, (k 8 (by decide) (by decide)).2.trans a3, (k 9 (by decide) (by decide)).2.trans a4, (k 16 (by decide) (by decide)).2.trans a5, (k 14 (by decide) (by decide)).2.trans a6, h10, h11, h12, h13, h17, h18⟩, ⟨b1, b2, Nat.le_trans b3 a.2.2.2.1, hx⟩, ?_, ?_, ?_⟩
  · rw [(k 6 (by decide) (by decide)).1, (k 8 (by decide) (by decide)).1, (k 7 (by decide) (by decide)).1]
    exact c
  · rw [(k 6 (by decide) (by decide)).1, (k 9 (by decide) (by decide)).1]
    exact d
  · rw [(k 6 (by decide) (by decide)).1, (k 7 (by decide) (by decide)).1]
    exact d2
/-- lastAsked's contents don't count -/
theorem TY.las {S u : cS} {T V VP X Y Z Z' : Nat} (h : TY S T V VP X Y Z) (a : AW [16, 17, 18] [] S u) (h16 : kK u 16 = T) (h17 : kK u 17 = Z') (h18 : kK u 18 = Z') : TY u T V VP X Y Z' := by
  obtain ⟨⟨a1, a2, a3, a4, a5, a6, a7, a8, a9, a10, a11, a12⟩, ⟨b1, b2, b3, b4⟩, c, d, d2⟩ := h
  have k : ∀ r, r < 35 → r ∈ [6, 7, 8, 9, 14, 10, 11, 12, 13] → kF u r = kF S r ∧ kK u r = kK S r := fun r h1 h2 => a.2.1 r (by omega) (by rw [Nat.min_eq_left (by omega)]; revert r; decide)
  refine ⟨⟨(k 6 (by decide) (by decide)).2.trans a1, (k 7 (by decide) (by decide)).2.trans a2, (k 8 (by decide) (by decide)).2.trans a3, (k 9 (by decide) (by decide)).2.trans a4, h16, (k 14 (by decide) (by decide)).2.trans a6, (k 10 (by decide) (by decide)).2.trans a7, (k 11 (by decide) (by decide)).2.trans a8, (k 12 (by decide) (by decide)).2.trans a9, (k 13 (by decide) (by decide)).2.trans a10, h17, h18⟩, ⟨b1, b2, Nat.le_trans b3 a.2.2.2.1, b4⟩, ?_, ?_, ?_⟩
  · rw [(k 6 (by decide) (by decide)).1, (k 8 (by decide) (by decide)).1, (k 7 (by decide) (by decide)).1]
    exact c
  · rw [(k 6 (by decide) (by decide)).1, (k 9 (by decide) (by decide)).1]
    exact d
  · rw [(k 6 (by decide) (by decide)).1, (k 7 (by decide) (by decide)).1]
    exact d2
/-- one more VARIABLE -/
theorem TY.var {S u : cS} {T V VP X Y Z : Nat} (h : TY S T V VP X Y Z) (a : AW [14, 35] [] S u) (h14 : kK u 14 = V + 1) (hv : V < 150) (hB : 2 * (V + 1) ≤ kB u) : TY u T (V + 1) VP X Y Z := by
  obtain ⟨⟨a1, a2, a3, a4, a5, a6, a7, a8, a9, a10, a11, a12⟩, ⟨b1, b2, b3, b4⟩, c, d, d2⟩ := h
  have k : ∀ r, r < 35 → r ∈ [6, 7, 8, 9, 16, 10, 11, 12, 13, 17, 18] → kF u r = kF S r ∧ kK u r = kK S r := fun r h1 h2 => a.2.1 r (by omega) (by rw [Nat.min_eq_left (by omega)]; revert r; decide)
  refine ⟨⟨(k 6 (by decide) (by decide)).2.trans a1, (k 7 (by decide) (by decide)).2.trans a2, (k 8 (by decide) (by decide)).2.trans a3, (k 9 (by decide) (by decide)).2.trans a4, (k 16 (by decide) (by decide)).2.trans a5, h14, (k 10 (by decide) (by decide)).2.trans a7, (k 11 (by decide) (by decide)).2.trans a8, (k 12 (by decide) (by decide)).2.trans a9, (k 13 (by decide) (by decide)).2.trans a10, (k 17 (by decide) (by decide)).2.trans a11, (k 18 (by decide) (by decide)).2.trans a12⟩, ⟨b1, hv, hB, b4⟩, ?_, ?_, ?_⟩
  · rw [(k 6 (by decide) (by decide)).1, (k 8 (by decide) (by decide)).1, (k 7 (by decide) (by decide)).1]
    exact c
  · rw [(k 6 (by decide) (by decide)).1, (k 9 (by decide) (by decide)).1]
    exact d
  · rw [(k 6 (by decide) (by decide)).1, (k 7 (by decide) (by decide)).1]
    exact d2

theorem bnd_lt {S : cS} {r T V sd : Nat} {t : Int32} (h : (r = 15 ∧ rget (kF S 6) (kK S 6) t ≠ 4) ∨ ∃ j w, j < T ∧ t = nI j ∧ kF S 6 j = 4 ∧ w < V ∧ kF S 8 j = nI w ∧ r = 35 + (2 * w + sd)) (hb : 2 * V ≤ kB S) (hs : sd < 2) : r < 35 + kB S := by
  rcases h with h | ⟨j, w, -, -, -, h1, -, h2⟩ <;> omega

set_option maxHeartbeats 4000000 in
set_option maxRecDepth 100000 in
/-- boundsOf -/
theorem y_boundsOf (l : Launch) (G : cG) (S : cS) (T : Nat) (V : Nat) (VP : Nat) (X : Nat) (Y : Nat) (Z : Nat) (t : Int32) (sd : Nat) (hC : CL S) (hY : TY S T V VP X Y Z) (hVP : VP ≤ V) (hsd : sd < 2) (Hs : Heap) : Met l yX4_boundsOf (wC yX4_boundsOf cX4_boundsOf 5 (some (.object "PolarTypes$Row"))) (cRm S 1 21) (cPc G S Hs [.ref (ga G 2), .int t, .int (nI sd)]) (cQr G S Hs (fun v u => AW [] [] S u ∧ (u = S ∧ ∃ r, v = kH S r ∧ ((r = 15 ∧ rget (kF S 6) (kK S 6) t ≠ 4) ∨ ∃ j w, j < T ∧ t = nI j ∧ kF S 6 j = 4 ∧ w < V ∧ kF S 8 j = nI w ∧ r = 35 + (2 * w + sd))))) (CC - PT S) (12 * (CC - PT S)) (cA G S Hs.size) := by
  refine Met.ofW (cc := cX4_boundsOf) (maxL := 5) (ret := (some (.object "PolarTypes$Row"))) (by decide) rfl ?_
  intro p e s m args below meth c s₁ B hml hv
  obtain ⟨rfl, hsz, hP, hK, hD0, -⟩ := hv
  have hx := B.exec
  have hb := B.bytes
  have hr := B.returns
  have htu : ∀ w ∈ CU, w.before _ s = true := fun w h => atoms_spec (ws := (wC yX4_boundsOf cX4_boundsOf 5 (some (.object "PolarTypes$Row")))) B.pre w (List.mem_cons_of_mem _ h)
  have hown : s.vm.findClass RX4 = some m.cls := findClass_of_methodNamed B.named
  have hlocks := B.notSynchronized
  subst hsz
  have hD : cD (cA G S s.heap.size) G S := cD_self hD0
  have hl := lv_entry ([.ref (ga G 2), .int t, .int (nI sd)]) (n := 5) (Nat.le_of_ble_eq_true rfl)
  rw [lg_entry_eq]
  generalize (lg_sl ([.ref (ga G 2), .int t, .int (nI sd)]) ++ List.replicate (5 - (lg_sl ([.ref (ga G 2), .int t, .int (nI sd)])).length) Slot.unset).toArray = ls at hl ⊢
  have hl : lv_has ls 5 [(0, .ref (ga G 2)), (1, .int t), (2, .int (nI sd))] := hl
  obtain ⟨H, hHe⟩ : ∃ H : Heap, H = s.heap := ⟨_, rfl⟩
  rw [← hHe] at hP
  have hS : va_S (cA G S s.heap.size) s.heap H [] := by rw [hHe]; exact va_S.rf
  have hh : HS S S := HS.rf
  have hpp : PT S ≤ PT S := Nat.le_refl _
  have hB9 := hC.1
  refine W.heq hHe ?_
  refine c_ent (S := S) ?_
  obtain ⟨⟨k6, k7, k8, k9, k16, k14, k10, k11, k12, k13, k17, k18⟩, ⟨tT, tV, tB, tX⟩, tv, tr, ts⟩ := id hY
  refine lv_iconst (v := 2) hx hb dX4_boundsOf_0 (by decide) ?_
  refine lv_aload_n hx hb dX4_boundsOf_1 rfl (lv_at hl 0 rfl) ?_
  refine va_get (D := gD G) (ci := 4) (v := .ref (kH S 8)) (C := RX4) (T := TX4) (N := 14) hx hb htu cu_in4 hown hK hP 2 cw_2 rfl 2 (by decide) (htu _ C_68) (fun _ h9 => h9) rfl dX4_boundsOf_2 ?_
  refine lv_iload_n hx hb dX4_boundsOf_5 rfl (lv_at hl 1 rfl) ?_
  have hC0 := hC
  refine c_ci (c_runV (As := [.int t]) (rest := [.int 2]) (q0 := (2 * 8 + 13)) (ci := 0) ⟨hx, hb, hml, hown, htu⟩ (c_getA l G S 8 (lt35 (by decide)) hC (kH S 8) rfl t H) (cwV 1 htu hU_X4_89 rfl rfl rfl (by decide +kernel) ⟨Nat.le_of_ble_eq_true rfl, Nat.le_of_ble_eq_true rfl⟩) hP hK hD hC hpp (c_hd rfl (cw_row (lt35 (by decide)))) rfl rfl hl.1 rfl (lv_room (Nat.le_of_ble_eq_true rfl)) dX4_boundsOf_6) hS hD hh hpp (fun r_1 S_2 H locs hw_3 hP hD hS hC hh hs_4 hpp => ?_)
  obtain ⟨hu9, hw_3⟩ := hw_3
  have hu9 := hu9.symm
  subst hu9
  refine lv_imul hx hb dX4_boundsOf_9 ?_
  refine lv_topi (fun f_5 ef_5 => ?_)
  refine lv_iload_n hx hb dX4_boundsOf_10 rfl (lv_at hl 2 rfl) ?_
  refine lv_iadd hx hb dX4_boundsOf_11 ?_
  refine lv_topi (fun f_6 ef_6 => ?_)
  refine lv_istore_n (lv' := [(3, .int f_6), (0, .ref (ga G 2)), (1, .int t), (2, .int (nI sd))]) hx hb dX4_boundsOf_12 rfl hl (by decide) rfl (fun ls hl => ?_)
  refine lv_aload_n hx hb dX4_boundsOf_13 rfl (lv_at hl 1 rfl) ?_
  refine va_get (D := gD G) (ci := 4) (v := .ref (kH S 6)) (C := RX4) (T := TX4) (N := 14) hx hb htu cu_in4 hown hK hP 2 cw_2 rfl 0 (by decide) (htu _ C_66) (fun _ h9 => h9) rfl dX4_boundsOf_14 ?_
  refine lv_iload_n hx hb dX4_boundsOf_17 rfl (lv_at hl 2 rfl) ?_
  have hC0 := hC
  refine c_ci (c_runV (As := [.int t]) (rest := []) (q0 := (2 * 6 + 13)) (ci := 0) ⟨hx, hb, hml, hown, htu⟩ (c_getA l G S 6 (lt35 (by decide)) hC (kH S 6) rfl t H) (cwV 1 htu hU_X4_89 rfl rfl rfl (by decide +kernel) ⟨Nat.le_of_ble_eq_true rfl, Nat.le_of_ble_eq_true rfl⟩) hP hK hD hC hpp (c_hd rfl (cw_row (lt35 (by decide)))) rfl rfl hl.1 rfl (lv_room (Nat.le_of_ble_eq_true rfl)) dX4_boundsOf_18) hS hD hh hpp (fun r_7 S_8 H locs hw_9 hP hD hS hC hh hs_10 hpp => ?_)
  obtain ⟨hu9, hw_9⟩ := hw_9
  have hu9 := hu9.symm
  subst hu9
  refine lv_iconst (v := 4) hx hb dX4_boundsOf_21 (by decide) ?_
  refine lv_icmp_ne (tgt := 38) hx hb dX4_boundsOf_22 (by decide) (fun c_11 => ?_) (fun c_11 => ?_)
  · skip
    refine lv_aload_n hx hb dX4_boundsOf_38 rfl (lv_at hl 1 rfl) ?_
    refine va_get (D := gD G) (ci := 4) (v := .ref (kH S 15)) (C := RX4) (T := TX4) (N := 14) hx hb htu cu_in4 hown hK hP 2 cw_2 rfl 10 (by decide) (htu _ C_76) (fun _ h9 => h9) rfl dX4_boundsOf_39 ?_
    exact c_aret (v := (kH S 15)) hx hb hr hK hP hD hS hC hh hpp rfl ⟨AW.rf, ⟨rfl, 15, rfl, Or.inl ⟨rfl, fun h => absurd (hw_9.trans h) c_11⟩⟩⟩ dX4_boundsOf_42 hlocks
  · skip
    obtain ⟨j9, q1, q2, q3⟩ := rget_in (v := 4) (hw_9.symm.trans c_11) (by decide) (by omega)
    obtain ⟨⟨v9, q4, q5⟩, -⟩ := tv j9 (by omega) q3
    have e9 : r_1 = nI v9 := by rw [hw_3, q2]; unfold rget; rw [if_neg (nI_n0 (by omega)), if_neg (fun h => by rw [i_le, nI_toInt (by omega), nI_toInt (by omega)] at h; omega), nI_clamp (by omega)]; exact q5
    have e10 : f_6 = nI (2 * v9 + sd) := by rw [ef_6, ef_5, e9]; exact (congrArg (· + nI sd) (pk_mul 2 v9)).trans (nI_add _ _)
    subst e10
    refine lv_iload_n hx hb dX4_boundsOf_25 rfl (lv_at hl 0 rfl) ?_
    refine lv_if_lt (tgt := 38) hx hb dX4_boundsOf_26 (by decide) (fun c_12 => absurd c_12 (nI_n0 (by omega))) (fun c_12 => ?_)
    refine lv_iload_n hx hb dX4_boundsOf_29 rfl (lv_at hl 0 rfl) ?_
    refine lv_aload_n hx hb dX4_boundsOf_30 rfl (lv_at hl 1 rfl) ?_
    refine va_get (D := gD G) (ci := 4) (v := .ref (ga G 12)) (C := RX4) (T := TX4) (N := 14) hx hb htu cu_in4 hown hK hP 2 cw_2 rfl 9 (by decide) (htu _ C_75) (fun _ h9 => h9) rfl dX4_boundsOf_31 ?_
    refine va_alen hx hb hK hP 12 2 cw_12 rfl (v := 300) rfl dX4_boundsOf_34 ?_
    refine lv_icmp_lt (tgt := 43) hx hb dX4_boundsOf_35 (by decide) (fun c_13 => ?_) (fun c_13 => absurd ((nI_ltI (a := 2 * v9 + sd) (b := 300) (by omega) (by omega)).mpr (by omega)) c_13)
    refine lv_aload_n hx hb dX4_boundsOf_43 rfl (lv_at hl 1 rfl) ?_
    refine va_get (D := gD G) (ci := 4) (v := .ref (ga G 12)) (C := RX4) (T := TX4) (N := 14) hx hb htu cu_in4 hown hK hP 2 cw_2 rfl 9 (by decide) (htu _ C_75) (fun _ h9 => h9) rfl dX4_boundsOf_44 ?_
    refine lv_iload_n hx hb dX4_boundsOf_47 rfl (lv_at hl 0 rfl) ?_
    refine va_aldq hx hb hK hP 12 2 cw_12 rfl (i := nI (2 * v9 + sd)) (vp_in_nI (by omega) (by decide)) dX4_boundsOf_48 ?_
    rw [nI_clamp (by omega), show va_rf (if 2 * v9 + sd < kB S then some (kH S (35 + (2 * v9 + sd))) else none) = .ref (kH S (35 + (2 * v9 + sd))) by rw [if_pos (show 2 * v9 + sd < kB S by omega)]; rfl]
    refine lv_astore (lv' := [(4, .ref (kH S (35 + (2 * v9 + sd)))), (3, .int (nI (2 * v9 + sd))), (0, .ref (ga G 2)), (1, .int t), (2, .int (nI sd))]) hx hb dX4_boundsOf_49 hl (by decide) rfl (fun ls hl => ?_)
    refine lv_aload hx hb dX4_boundsOf_51 (lv_at hl 0 rfl) ?_
    refine lv_ifnonnull (tgt := 63) hx hb dX4_boundsOf_53 (by decide) ?_
    refine lv_aload hx hb dX4_boundsOf_63 (lv_at hl 0 rfl) ?_
    exact c_aret (v := (kH S (35 + (2 * v9 + sd)))) hx hb hr hK hP hD hS hC hh hpp rfl ⟨AW.rf, ⟨rfl, 35 + (2 * v9 + sd), rfl, Or.inr ⟨j9, v9, Nat.lt_of_lt_of_eq q1 k6, q2, q3, Nat.lt_of_lt_of_le q4 hVP, q5, rfl⟩⟩⟩ dX4_boundsOf_65 hlocks
