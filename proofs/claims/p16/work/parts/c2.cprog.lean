theorem dX5_forget_0 : decode cX5_forget 0 = .ok (.aload_n 0, 1) := by decide +kernel
theorem dX5_forget_1 : decode cX5_forget 1 = .ok (.getfield 12, 3) := by decide +kernel
theorem dX5_forget_4 : decode cX5_forget 4 = .ok (.invokevirtual 68, 3) := by decide +kernel
theorem dX5_forget_7 : decode cX5_forget 7 = .ok (.aload_n 0, 1) := by decide +kernel
theorem dX5_forget_8 : decode cX5_forget 8 = .ok (.iconst 0, 1) := by decide +kernel
theorem dX5_forget_9 : decode cX5_forget 9 = .ok (.putfield 71, 3) := by decide +kernel
theorem dX5_forget_12 : decode cX5_forget 12 = .ok (.aload_n 0, 1) := by decide +kernel
theorem dX5_forget_13 : decode cX5_forget 13 = .ok (.bipush (-9), 2) := by decide +kernel
theorem dX5_forget_15 : decode cX5_forget 15 = .ok (.putfield 58, 3) := by decide +kernel
theorem dX5_forget_18 : decode cX5_forget 18 = .ok (.aload_n 0, 1) := by decide +kernel
theorem dX5_forget_19 : decode cX5_forget 19 = .ok (.bipush (-4), 2) := by decide +kernel
theorem dX5_forget_21 : decode cX5_forget 21 = .ok (.putfield 61, 3) := by decide +kernel
theorem dX5_forget_24 : decode cX5_forget 24 = .ok (.return_, 1) := by decide +kernel
theorem dX5_typeProgram_0 : decode cX5_typeProgram 0 = .ok (.aload_n 0, 1) := by decide +kernel
theorem dX5_typeProgram_1 : decode cX5_typeProgram 1 = .ok (.invokevirtual 74, 3) := by decide +kernel
theorem dX5_typeProgram_4 : decode cX5_typeProgram 4 = .ok (.aload_n 0, 1) := by decide +kernel
theorem dX5_typeProgram_5 : decode cX5_typeProgram 5 = .ok (.iload_n 1, 1) := by decide +kernel
theorem dX5_typeProgram_6 : decode cX5_typeProgram 6 = .ok (.putfield 54, 3) := by decide +kernel
theorem dX5_typeProgram_9 : decode cX5_typeProgram 9 = .ok (.aload_n 0, 1) := by decide +kernel
theorem dX5_typeProgram_10 : decode cX5_typeProgram 10 = .ok (.iload_n 1, 1) := by decide +kernel
theorem dX5_typeProgram_11 : decode cX5_typeProgram 11 = .ok (.iconst 0, 1) := by decide +kernel
theorem dX5_typeProgram_12 : decode cX5_typeProgram 12 = .ok (.iconst 1, 1) := by decide +kernel
theorem dX5_typeProgram_13 : decode cX5_typeProgram 13 = .ok (.invokevirtual 77, 3) := by decide +kernel
theorem dX5_typeProgram_16 : decode cX5_typeProgram 16 = .ok (.istore_n 2, 1) := by decide +kernel
theorem dX5_typeProgram_17 : decode cX5_typeProgram 17 = .ok (.aload_n 0, 1) := by decide +kernel
theorem dX5_typeProgram_18 : decode cX5_typeProgram 18 = .ok (.iload_n 2, 1) := by decide +kernel
theorem dX5_typeProgram_19 : decode cX5_typeProgram 19 = .ok (.ifCond .ge 7, 3) := by decide +kernel
theorem dX5_typeProgram_26 : decode cX5_typeProgram 26 = .ok (.iconst 0, 1) := by decide +kernel
theorem dX5_typeProgram_27 : decode cX5_typeProgram 27 = .ok (.putfield 61, 3) := by decide +kernel
theorem dX5_typeProgram_30 : decode cX5_typeProgram 30 = .ok (.aload_n 0, 1) := by decide +kernel
theorem dX5_typeProgram_31 : decode cX5_typeProgram 31 = .ok (.getfield 61, 3) := by decide +kernel
theorem dX5_typeProgram_34 : decode cX5_typeProgram 34 = .ok (.ifCond .eq 8, 3) := by decide +kernel
theorem dX5_typeProgram_42 : decode cX5_typeProgram 42 = .ok (.aload_n 0, 1) := by decide +kernel
theorem dX5_typeProgram_43 : decode cX5_typeProgram 43 = .ok (.getfield 23, 3) := by decide +kernel
theorem dX5_typeProgram_46 : decode cX5_typeProgram 46 = .ok (.iload_n 2, 1) := by decide +kernel
theorem dX5_typeProgram_47 : decode cX5_typeProgram 47 = .ok (.iconst 0, 1) := by decide +kernel
theorem dX5_typeProgram_48 : decode cX5_typeProgram 48 = .ok (.aload_n 0, 1) := by decide +kernel
theorem dX5_typeProgram_49 : decode cX5_typeProgram 49 = .ok (.getfield 32, 3) := by decide +kernel
theorem dX5_typeProgram_52 : decode cX5_typeProgram 52 = .ok (.invokevirtual 81, 3) := by decide +kernel
theorem dX5_typeProgram_55 : decode cX5_typeProgram 55 = .ok (.aload_n 0, 1) := by decide +kernel
theorem dX5_typeProgram_56 : decode cX5_typeProgram 56 = .ok (.getfield 12, 3) := by decide +kernel
theorem dX5_typeProgram_59 : decode cX5_typeProgram 59 = .ok (.invokevirtual 85, 3) := by decide +kernel
theorem dX5_typeProgram_62 : decode cX5_typeProgram 62 = .ok (.ireturn, 1) := by decide +kernel
theorem dX5_typeProgram_22 : decode cX5_typeProgram 22 = .ok (.iload_n 2, 1) := by decide +kernel
theorem dX5_typeProgram_23 : decode cX5_typeProgram 23 = .ok (.goto 4, 3) := by decide +kernel
theorem dX5_typeProgram_37 : decode cX5_typeProgram 37 = .ok (.aload_n 0, 1) := by decide +kernel
theorem dX5_typeProgram_38 : decode cX5_typeProgram 38 = .ok (.getfield 61, 3) := by decide +kernel
theorem dX5_typeProgram_41 : decode cX5_typeProgram 41 = .ok (.ireturn, 1) := by decide +kernel
