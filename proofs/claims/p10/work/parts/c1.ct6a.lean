theorem dX2_putNumber_0 : decode cX2_putNumber 0 = .ok (.aload_n 0, 1) := by decide +kernel
theorem dX2_putNumber_1 : decode cX2_putNumber 1 = .ok (.getfield 35, 3) := by decide +kernel
theorem dX2_putNumber_4 : decode cX2_putNumber 4 = .ok (.bipush 39, 2) := by decide +kernel
theorem dX2_putNumber_6 : decode cX2_putNumber 6 = .ok (.invokevirtual 69, 3) := by decide +kernel
theorem dX2_putNumber_9 : decode cX2_putNumber 9 = .ok (.aload_n 0, 1) := by decide +kernel
theorem dX2_putNumber_10 : decode cX2_putNumber 10 = .ok (.getfield 35, 3) := by decide +kernel
theorem dX2_putNumber_13 : decode cX2_putNumber 13 = .ok (.aload_n 0, 1) := by decide +kernel
theorem dX2_putNumber_14 : decode cX2_putNumber 14 = .ok (.getfield 39, 3) := by decide +kernel
theorem dX2_putNumber_17 : decode cX2_putNumber 17 = .ok (.iload_n 1, 1) := by decide +kernel
theorem dX2_putNumber_18 : decode cX2_putNumber 18 = .ok (.invokevirtual 73, 3) := by decide +kernel
theorem dX2_putNumber_21 : decode cX2_putNumber 21 = .ok (.invokevirtual 92, 3) := by decide +kernel
theorem dX2_putNumber_24 : decode cX2_putNumber 24 = .ok (.return_, 1) := by decide +kernel
