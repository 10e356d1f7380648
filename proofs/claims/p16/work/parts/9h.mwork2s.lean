theorem dX8_seen_0 : decode cX8_seen 0 = .ok (.iload_n 2, 1) := by decide +kernel
theorem dX8_seen_1 : decode cX8_seen 1 = .ok (.istore_n 3, 1) := by decide +kernel
theorem dX8_seen_2 : decode cX8_seen 2 = .ok (.iload_n 3, 1) := by decide +kernel
theorem dX8_seen_3 : decode cX8_seen 3 = .ok (.bipush (-9), 2) := by decide +kernel
theorem dX8_seen_5 : decode cX8_seen 5 = .ok (.if_icmp .eq 28, 3) := by decide +kernel
theorem dX8_seen_33 : decode cX8_seen 33 = .ok (.iload_n 3, 1) := by decide +kernel
theorem dX8_seen_34 : decode cX8_seen 34 = .ok (.bipush (-9), 2) := by decide +kernel
theorem dX8_seen_36 : decode cX8_seen 36 = .ok (.if_icmp .ne 10, 3) := by decide +kernel
theorem dX8_seen_39 : decode cX8_seen 39 = .ok (.aload_n 0, 1) := by decide +kernel
theorem dX8_seen_40 : decode cX8_seen 40 = .ok (.iconst 1, 1) := by decide +kernel
theorem dX8_seen_41 : decode cX8_seen 41 = .ok (.iload_n 1, 1) := by decide +kernel
theorem dX8_seen_42 : decode cX8_seen 42 = .ok (.invokevirtual 343, 3) := by decide +kernel
theorem dX8_seen_45 : decode cX8_seen 45 = .ok (.ireturn, 1) := by decide +kernel
theorem dX8_seen_8 : decode cX8_seen 8 = .ok (.aload_n 0, 1) := by decide +kernel
theorem dX8_seen_9 : decode cX8_seen 9 = .ok (.getfield 115, 3) := by decide +kernel
theorem dX8_seen_12 : decode cX8_seen 12 = .ok (.iload_n 3, 1) := by decide +kernel
theorem dX8_seen_13 : decode cX8_seen 13 = .ok (.iaload, 1) := by decide +kernel
theorem dX8_seen_14 : decode cX8_seen 14 = .ok (.aload_n 0, 1) := by decide +kernel
theorem dX8_seen_15 : decode cX8_seen 15 = .ok (.getfield 13, 3) := by decide +kernel
theorem dX8_seen_18 : decode cX8_seen 18 = .ok (.iload_n 1, 1) := by decide +kernel
theorem dX8_seen_19 : decode cX8_seen 19 = .ok (.iaload, 1) := by decide +kernel
theorem dX8_seen_20 : decode cX8_seen 20 = .ok (.if_icmp .eq 13, 3) := by decide +kernel
theorem dX8_seen_46 : decode cX8_seen 46 = .ok (.aload_n 0, 1) := by decide +kernel
theorem dX8_seen_47 : decode cX8_seen 47 = .ok (.getfield 121, 3) := by decide +kernel
theorem dX8_seen_50 : decode cX8_seen 50 = .ok (.iload_n 3, 1) := by decide +kernel
theorem dX8_seen_51 : decode cX8_seen 51 = .ok (.iaload, 1) := by decide +kernel
theorem dX8_seen_52 : decode cX8_seen 52 = .ok (.bipush (-9), 2) := by decide +kernel
theorem dX8_seen_54 : decode cX8_seen 54 = .ok (.if_icmp .ne 12, 3) := by decide +kernel
theorem dX8_seen_66 : decode cX8_seen 66 = .ok (.aload_n 0, 1) := by decide +kernel
theorem dX8_seen_67 : decode cX8_seen 67 = .ok (.aload_n 0, 1) := by decide +kernel
theorem dX8_seen_68 : decode cX8_seen 68 = .ok (.getfield 19, 3) := by decide +kernel
theorem dX8_seen_71 : decode cX8_seen 71 = .ok (.bipush 6, 2) := by decide +kernel
theorem dX8_seen_73 : decode cX8_seen 73 = .ok (.aload_n 0, 1) := by decide +kernel
theorem dX8_seen_74 : decode cX8_seen 74 = .ok (.getfield 121, 3) := by decide +kernel
theorem dX8_seen_77 : decode cX8_seen 77 = .ok (.iload_n 3, 1) := by decide +kernel
theorem dX8_seen_78 : decode cX8_seen 78 = .ok (.iaload, 1) := by decide +kernel
theorem dX8_seen_79 : decode cX8_seen 79 = .ok (.imul, 1) := by decide +kernel
theorem dX8_seen_80 : decode cX8_seen 80 = .ok (.iaload, 1) := by decide +kernel
theorem dX8_seen_81 : decode cX8_seen 81 = .ok (.iload_n 3, 1) := by decide +kernel
theorem dX8_seen_82 : decode cX8_seen 82 = .ok (.invokevirtual 355, 3) := by decide +kernel
theorem dX8_seen_85 : decode cX8_seen 85 = .ok (.ireturn, 1) := by decide +kernel
theorem dX8_seen_57 : decode cX8_seen 57 = .ok (.aload_n 0, 1) := by decide +kernel
theorem dX8_seen_58 : decode cX8_seen 58 = .ok (.getfield 118, 3) := by decide +kernel
theorem dX8_seen_61 : decode cX8_seen 61 = .ok (.iload_n 3, 1) := by decide +kernel
theorem dX8_seen_62 : decode cX8_seen 62 = .ok (.iaload, 1) := by decide +kernel
theorem dX8_seen_63 : decode cX8_seen 63 = .ok (.goto 22, 3) := by decide +kernel
theorem dX8_seen_23 : decode cX8_seen 23 = .ok (.aload_n 0, 1) := by decide +kernel
theorem dX8_seen_24 : decode cX8_seen 24 = .ok (.getfield 124, 3) := by decide +kernel
theorem dX8_seen_27 : decode cX8_seen 27 = .ok (.iload_n 3, 1) := by decide +kernel
theorem dX8_seen_28 : decode cX8_seen 28 = .ok (.iaload, 1) := by decide +kernel
theorem dX8_seen_29 : decode cX8_seen 29 = .ok (.istore_n 3, 1) := by decide +kernel
theorem dX8_seen_30 : decode cX8_seen 30 = .ok (.goto (-28), 3) := by decide +kernel
