theorem dX4_addType_0 : decode cX4_addType 0 = .ok (.aload_n 0, 1) := by decide +kernel
theorem dX4_addType_1 : decode cX4_addType 1 = .ok (.getfield 12, 3) := by decide +kernel
theorem dX4_addType_4 : decode cX4_addType 4 = .ok (.getfield 69, 3) := by decide +kernel
theorem dX4_addType_7 : decode cX4_addType 7 = .ok (.istore 5, 2) := by decide +kernel
theorem dX4_addType_9 : decode cX4_addType 9 = .ok (.iload 5, 2) := by decide +kernel
theorem dX4_addType_11 : decode cX4_addType 11 = .ok (.sipush 602, 3) := by decide +kernel
theorem dX4_addType_14 : decode cX4_addType 14 = .ok (.if_icmp .lt 6, 3) := by decide +kernel
theorem dX4_addType_20 : decode cX4_addType 20 = .ok (.aload_n 0, 1) := by decide +kernel
theorem dX4_addType_21 : decode cX4_addType 21 = .ok (.getfield 12, 3) := by decide +kernel
theorem dX4_addType_24 : decode cX4_addType 24 = .ok (.iload_n 1, 1) := by decide +kernel
theorem dX4_addType_25 : decode cX4_addType 25 = .ok (.invokevirtual 73, 3) := by decide +kernel
theorem dX4_addType_28 : decode cX4_addType 28 = .ok (.aload_n 0, 1) := by decide +kernel
theorem dX4_addType_29 : decode cX4_addType 29 = .ok (.getfield 18, 3) := by decide +kernel
theorem dX4_addType_32 : decode cX4_addType 32 = .ok (.iload_n 2, 1) := by decide +kernel
theorem dX4_addType_33 : decode cX4_addType 33 = .ok (.invokevirtual 73, 3) := by decide +kernel
theorem dX4_addType_36 : decode cX4_addType 36 = .ok (.aload_n 0, 1) := by decide +kernel
theorem dX4_addType_37 : decode cX4_addType 37 = .ok (.getfield 21, 3) := by decide +kernel
theorem dX4_addType_40 : decode cX4_addType 40 = .ok (.iload_n 3, 1) := by decide +kernel
theorem dX4_addType_41 : decode cX4_addType 41 = .ok (.invokevirtual 73, 3) := by decide +kernel
theorem dX4_addType_44 : decode cX4_addType 44 = .ok (.aload_n 0, 1) := by decide +kernel
theorem dX4_addType_45 : decode cX4_addType 45 = .ok (.getfield 24, 3) := by decide +kernel
theorem dX4_addType_48 : decode cX4_addType 48 = .ok (.iload 4, 2) := by decide +kernel
theorem dX4_addType_50 : decode cX4_addType 50 = .ok (.invokevirtual 73, 3) := by decide +kernel
theorem dX4_addType_53 : decode cX4_addType 53 = .ok (.aload_n 0, 1) := by decide +kernel
theorem dX4_addType_54 : decode cX4_addType 54 = .ok (.getfield 49, 3) := by decide +kernel
theorem dX4_addType_57 : decode cX4_addType 57 = .ok (.bipush (-9), 2) := by decide +kernel
theorem dX4_addType_59 : decode cX4_addType 59 = .ok (.invokevirtual 73, 3) := by decide +kernel
theorem dX4_addType_62 : decode cX4_addType 62 = .ok (.iload 5, 2) := by decide +kernel
theorem dX4_addType_64 : decode cX4_addType 64 = .ok (.ireturn, 1) := by decide +kernel
theorem dX4_addType_17 : decode cX4_addType 17 = .ok (.bipush (-6), 2) := by decide +kernel
theorem dX4_addType_19 : decode cX4_addType 19 = .ok (.ireturn, 1) := by decide +kernel
theorem dX4_addFunction_0 : decode cX4_addFunction 0 = .ok (.aload_n 0, 1) := by decide +kernel
theorem dX4_addFunction_1 : decode cX4_addFunction 1 = .ok (.iconst 2, 1) := by decide +kernel
theorem dX4_addFunction_2 : decode cX4_addFunction 2 = .ok (.aload_n 0, 1) := by decide +kernel
theorem dX4_addFunction_3 : decode cX4_addFunction 3 = .ok (.iload_n 1, 1) := by decide +kernel
theorem dX4_addFunction_4 : decode cX4_addFunction 4 = .ok (.invokevirtual 79, 3) := by decide +kernel
theorem dX4_addFunction_7 : decode cX4_addFunction 7 = .ok (.aload_n 0, 1) := by decide +kernel
theorem dX4_addFunction_8 : decode cX4_addFunction 8 = .ok (.iload_n 2, 1) := by decide +kernel
theorem dX4_addFunction_9 : decode cX4_addFunction 9 = .ok (.invokevirtual 79, 3) := by decide +kernel
theorem dX4_addFunction_12 : decode cX4_addFunction 12 = .ok (.invokestatic 83, 3) := by decide +kernel
theorem dX4_addFunction_15 : decode cX4_addFunction 15 = .ok (.iload_n 1, 1) := by decide +kernel
theorem dX4_addFunction_16 : decode cX4_addFunction 16 = .ok (.iload_n 2, 1) := by decide +kernel
theorem dX4_addFunction_17 : decode cX4_addFunction 17 = .ok (.invokevirtual 65, 3) := by decide +kernel
theorem dX4_addFunction_20 : decode cX4_addFunction 20 = .ok (.ireturn, 1) := by decide +kernel
