theorem dX2_tell_0 : decode cX2_tell 0 = .ok (.aload_n 0, 1) := by decide +kernel
theorem dX2_tell_1 : decode cX2_tell 1 = .ok (.aload_n 3, 1) := by decide +kernel
theorem dX2_tell_2 : decode cX2_tell 2 = .ok (.putfield 35, 3) := by decide +kernel
theorem dX2_tell_5 : decode cX2_tell 5 = .ok (.aload_n 0, 1) := by decide +kernel
theorem dX2_tell_6 : decode cX2_tell 6 = .ok (.getfield 35, 3) := by decide +kernel
theorem dX2_tell_9 : decode cX2_tell 9 = .ok (.invokevirtual 43, 3) := by decide +kernel
theorem dX2_tell_12 : decode cX2_tell 12 = .ok (.aload_n 0, 1) := by decide +kernel
theorem dX2_tell_13 : decode cX2_tell 13 = .ok (.iload_n 1, 1) := by decide +kernel
theorem dX2_tell_14 : decode cX2_tell 14 = .ok (.iload_n 2, 1) := by decide +kernel
theorem dX2_tell_15 : decode cX2_tell 15 = .ok (.invokevirtual 46, 3) := by decide +kernel
theorem dX2_tell_18 : decode cX2_tell 18 = .ok (.iconst 0, 1) := by decide +kernel
theorem dX2_tell_19 : decode cX2_tell 19 = .ok (.istore 4, 2) := by decide +kernel
theorem dX2_tell_21 : decode cX2_tell 21 = .ok (.iload 4, 2) := by decide +kernel
theorem dX2_tell_23 : decode cX2_tell 23 = .ok (.ldc 50, 2) := by decide +kernel
theorem dX2_tell_25 : decode cX2_tell 25 = .ok (.if_icmp .ge 40, 3) := by decide +kernel
theorem dX2_tell_28 : decode cX2_tell 28 = .ok (.aload_n 0, 1) := by decide +kernel
theorem dX2_tell_29 : decode cX2_tell 29 = .ok (.getfield 12, 3) := by decide +kernel
theorem dX2_tell_32 : decode cX2_tell 32 = .ok (.getfield 51, 3) := by decide +kernel
theorem dX2_tell_35 : decode cX2_tell 35 = .ok (.ifCond .le 30, 3) := by decide +kernel
theorem dX2_tell_65 : decode cX2_tell 65 = .ok (.return_, 1) := by decide +kernel
theorem dX2_tell_38 : decode cX2_tell 38 = .ok (.aload_n 0, 1) := by decide +kernel
theorem dX2_tell_39 : decode cX2_tell 39 = .ok (.getfield 35, 3) := by decide +kernel
theorem dX2_tell_42 : decode cX2_tell 42 = .ok (.invokevirtual 55, 3) := by decide +kernel
theorem dX2_tell_45 : decode cX2_tell 45 = .ok (.ifCond .eq 10, 3) := by decide +kernel
theorem dX2_tell_48 : decode cX2_tell 48 = .ok (.aload_n 0, 1) := by decide +kernel
theorem dX2_tell_49 : decode cX2_tell 49 = .ok (.invokevirtual 59, 3) := by decide +kernel
theorem dX2_tell_52 : decode cX2_tell 52 = .ok (.goto 7, 3) := by decide +kernel
theorem dX2_tell_59 : decode cX2_tell 59 = .ok (.iinc 4 1, 3) := by decide +kernel
theorem dX2_tell_62 : decode cX2_tell 62 = .ok (.goto (-41), 3) := by decide +kernel
theorem dX2_tell_55 : decode cX2_tell 55 = .ok (.aload_n 0, 1) := by decide +kernel
theorem dX2_tell_56 : decode cX2_tell 56 = .ok (.invokevirtual 62, 3) := by decide +kernel
