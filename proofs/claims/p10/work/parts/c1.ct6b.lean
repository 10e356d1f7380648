theorem dX2_begin_0 : decode cX2_begin 0 = .ok (.aload_n 0, 1) := by decide +kernel
theorem dX2_begin_1 : decode cX2_begin 1 = .ok (.getfield 39, 3) := by decide +kernel
theorem dX2_begin_4 : decode cX2_begin 4 = .ok (.iload_n 1, 1) := by decide +kernel
theorem dX2_begin_5 : decode cX2_begin 5 = .ok (.invokevirtual 65, 3) := by decide +kernel
theorem dX2_begin_8 : decode cX2_begin 8 = .ok (.tableswitch 76 0 3 #[32, 42, 52, 64], 32) := by decide +kernel
theorem dX2_begin_40 : decode cX2_begin 40 = .ok (.aload_n 0, 1) := by decide +kernel
theorem dX2_begin_41 : decode cX2_begin 41 = .ok (.getfield 35, 3) := by decide +kernel
theorem dX2_begin_44 : decode cX2_begin 44 = .ok (.bipush 119, 2) := by decide +kernel
theorem dX2_begin_46 : decode cX2_begin 46 = .ok (.invokevirtual 69, 3) := by decide +kernel
theorem dX2_begin_49 : decode cX2_begin 49 = .ok (.return_, 1) := by decide +kernel
theorem dX2_begin_50 : decode cX2_begin 50 = .ok (.aload_n 0, 1) := by decide +kernel
theorem dX2_begin_51 : decode cX2_begin 51 = .ok (.getfield 35, 3) := by decide +kernel
theorem dX2_begin_54 : decode cX2_begin 54 = .ok (.bipush 116, 2) := by decide +kernel
theorem dX2_begin_56 : decode cX2_begin 56 = .ok (.invokevirtual 69, 3) := by decide +kernel
theorem dX2_begin_59 : decode cX2_begin 59 = .ok (.return_, 1) := by decide +kernel
theorem dX2_begin_60 : decode cX2_begin 60 = .ok (.aload_n 0, 1) := by decide +kernel
theorem dX2_begin_61 : decode cX2_begin 61 = .ok (.getfield 35, 3) := by decide +kernel
theorem dX2_begin_64 : decode cX2_begin 64 = .ok (.bipush 62, 2) := by decide +kernel
theorem dX2_begin_66 : decode cX2_begin 66 = .ok (.invokevirtual 69, 3) := by decide +kernel
theorem dX2_begin_69 : decode cX2_begin 69 = .ok (.goto 93, 3) := by decide +kernel
theorem dX2_begin_162 : decode cX2_begin 162 = .ok (.aload_n 0, 1) := by decide +kernel
theorem dX2_begin_163 : decode cX2_begin 163 = .ok (.getfield 12, 3) := by decide +kernel
theorem dX2_begin_166 : decode cX2_begin 166 = .ok (.iload_n 1, 1) := by decide +kernel
theorem dX2_begin_167 : decode cX2_begin 167 = .ok (.invokevirtual 89, 3) := by decide +kernel
theorem dX2_begin_170 : decode cX2_begin 170 = .ok (.aload_n 0, 1) := by decide +kernel
theorem dX2_begin_171 : decode cX2_begin 171 = .ok (.getfield 18, 3) := by decide +kernel
theorem dX2_begin_174 : decode cX2_begin 174 = .ok (.iload_n 2, 1) := by decide +kernel
theorem dX2_begin_175 : decode cX2_begin 175 = .ok (.invokevirtual 89, 3) := by decide +kernel
theorem dX2_begin_178 : decode cX2_begin 178 = .ok (.aload_n 0, 1) := by decide +kernel
theorem dX2_begin_179 : decode cX2_begin 179 = .ok (.getfield 21, 3) := by decide +kernel
theorem dX2_begin_182 : decode cX2_begin 182 = .ok (.iconst 0, 1) := by decide +kernel
theorem dX2_begin_183 : decode cX2_begin 183 = .ok (.invokevirtual 89, 3) := by decide +kernel
theorem dX2_begin_186 : decode cX2_begin 186 = .ok (.return_, 1) := by decide +kernel
theorem dX2_begin_72 : decode cX2_begin 72 = .ok (.aload_n 0, 1) := by decide +kernel
theorem dX2_begin_73 : decode cX2_begin 73 = .ok (.getfield 35, 3) := by decide +kernel
theorem dX2_begin_76 : decode cX2_begin 76 = .ok (.bipush 123, 2) := by decide +kernel
theorem dX2_begin_78 : decode cX2_begin 78 = .ok (.invokevirtual 69, 3) := by decide +kernel
theorem dX2_begin_81 : decode cX2_begin 81 = .ok (.goto 81, 3) := by decide +kernel
theorem dX2_begin_84 : decode cX2_begin 84 = .ok (.iconst 2, 1) := by decide +kernel
theorem dX2_begin_85 : decode cX2_begin 85 = .ok (.aload_n 0, 1) := by decide +kernel
theorem dX2_begin_86 : decode cX2_begin 86 = .ok (.getfield 39, 3) := by decide +kernel
theorem dX2_begin_89 : decode cX2_begin 89 = .ok (.iload_n 1, 1) := by decide +kernel
theorem dX2_begin_90 : decode cX2_begin 90 = .ok (.invokevirtual 73, 3) := by decide +kernel
theorem dX2_begin_93 : decode cX2_begin 93 = .ok (.imul, 1) := by decide +kernel
theorem dX2_begin_94 : decode cX2_begin 94 = .ok (.iload_n 2, 1) := by decide +kernel
theorem dX2_begin_95 : decode cX2_begin 95 = .ok (.iadd, 1) := by decide +kernel
theorem dX2_begin_96 : decode cX2_begin 96 = .ok (.istore_n 3, 1) := by decide +kernel
theorem dX2_begin_97 : decode cX2_begin 97 = .ok (.aload_n 0, 1) := by decide +kernel
theorem dX2_begin_98 : decode cX2_begin 98 = .ok (.getfield 39, 3) := by decide +kernel
theorem dX2_begin_101 : decode cX2_begin 101 = .ok (.iload_n 1, 1) := by decide +kernel
theorem dX2_begin_102 : decode cX2_begin 102 = .ok (.iload_n 2, 1) := by decide +kernel
theorem dX2_begin_103 : decode cX2_begin 103 = .ok (.invokevirtual 76, 3) := by decide +kernel
theorem dX2_begin_106 : decode cX2_begin 106 = .ok (.getfield 51, 3) := by decide +kernel
theorem dX2_begin_109 : decode cX2_begin 109 = .ok (.ifCond .eq 15, 3) := by decide +kernel
theorem dX2_begin_124 : decode cX2_begin 124 = .ok (.aload_n 0, 1) := by decide +kernel
theorem dX2_begin_125 : decode cX2_begin 125 = .ok (.iload_n 1, 1) := by decide +kernel
theorem dX2_begin_126 : decode cX2_begin 126 = .ok (.invokevirtual 83, 3) := by decide +kernel
theorem dX2_begin_129 : decode cX2_begin 129 = .ok (.return_, 1) := by decide +kernel
theorem dX2_begin_112 : decode cX2_begin 112 = .ok (.aload_n 0, 1) := by decide +kernel
theorem dX2_begin_113 : decode cX2_begin 113 = .ok (.getfield 29, 3) := by decide +kernel
theorem dX2_begin_116 : decode cX2_begin 116 = .ok (.iload_n 3, 1) := by decide +kernel
theorem dX2_begin_117 : decode cX2_begin 117 = .ok (.invokevirtual 80, 3) := by decide +kernel
theorem dX2_begin_120 : decode cX2_begin 120 = .ok (.iconst 1, 1) := by decide +kernel
theorem dX2_begin_121 : decode cX2_begin 121 = .ok (.if_icmp .ne 9, 3) := by decide +kernel
theorem dX2_begin_130 : decode cX2_begin 130 = .ok (.aload_n 0, 1) := by decide +kernel
theorem dX2_begin_131 : decode cX2_begin 131 = .ok (.getfield 29, 3) := by decide +kernel
theorem dX2_begin_134 : decode cX2_begin 134 = .ok (.iload_n 3, 1) := by decide +kernel
theorem dX2_begin_135 : decode cX2_begin 135 = .ok (.iconst 1, 1) := by decide +kernel
theorem dX2_begin_136 : decode cX2_begin 136 = .ok (.invokevirtual 86, 3) := by decide +kernel
theorem dX2_begin_139 : decode cX2_begin 139 = .ok (.aload_n 0, 1) := by decide +kernel
theorem dX2_begin_140 : decode cX2_begin 140 = .ok (.getfield 35, 3) := by decide +kernel
theorem dX2_begin_143 : decode cX2_begin 143 = .ok (.iload_n 2, 1) := by decide +kernel
theorem dX2_begin_144 : decode cX2_begin 144 = .ok (.ifCond .ne 8, 3) := by decide +kernel
theorem dX2_begin_152 : decode cX2_begin 152 = .ok (.bipush 38, 2) := by decide +kernel
theorem dX2_begin_154 : decode cX2_begin 154 = .ok (.invokevirtual 69, 3) := by decide +kernel
theorem dX2_begin_157 : decode cX2_begin 157 = .ok (.aload_n 0, 1) := by decide +kernel
theorem dX2_begin_158 : decode cX2_begin 158 = .ok (.iload_n 1, 1) := by decide +kernel
theorem dX2_begin_159 : decode cX2_begin 159 = .ok (.invokevirtual 83, 3) := by decide +kernel
theorem dX2_begin_147 : decode cX2_begin 147 = .ok (.bipush 124, 2) := by decide +kernel
theorem dX2_begin_149 : decode cX2_begin 149 = .ok (.goto 5, 3) := by decide +kernel
theorem dX2_close_0 : decode cX2_close 0 = .ok (.aload_n 0, 1) := by decide +kernel
theorem dX2_close_1 : decode cX2_close 1 = .ok (.getfield 12, 3) := by decide +kernel
theorem dX2_close_4 : decode cX2_close 4 = .ok (.getfield 51, 3) := by decide +kernel
theorem dX2_close_7 : decode cX2_close 7 = .ok (.iconst 1, 1) := by decide +kernel
theorem dX2_close_8 : decode cX2_close 8 = .ok (.isub, 1) := by decide +kernel
theorem dX2_close_9 : decode cX2_close 9 = .ok (.istore_n 1, 1) := by decide +kernel
theorem dX2_close_10 : decode cX2_close 10 = .ok (.aload_n 0, 1) := by decide +kernel
theorem dX2_close_11 : decode cX2_close 11 = .ok (.getfield 12, 3) := by decide +kernel
theorem dX2_close_14 : decode cX2_close 14 = .ok (.iload_n 1, 1) := by decide +kernel
theorem dX2_close_15 : decode cX2_close 15 = .ok (.invokevirtual 80, 3) := by decide +kernel
theorem dX2_close_18 : decode cX2_close 18 = .ok (.istore_n 2, 1) := by decide +kernel
theorem dX2_close_19 : decode cX2_close 19 = .ok (.aload_n 0, 1) := by decide +kernel
theorem dX2_close_20 : decode cX2_close 20 = .ok (.getfield 39, 3) := by decide +kernel
theorem dX2_close_23 : decode cX2_close 23 = .ok (.iload_n 2, 1) := by decide +kernel
theorem dX2_close_24 : decode cX2_close 24 = .ok (.invokevirtual 65, 3) := by decide +kernel
theorem dX2_close_27 : decode cX2_close 27 = .ok (.iconst 4, 1) := by decide +kernel
theorem dX2_close_28 : decode cX2_close 28 = .ok (.if_icmp .ne 31, 3) := by decide +kernel
theorem dX2_close_59 : decode cX2_close 59 = .ok (.aload_n 0, 1) := by decide +kernel
theorem dX2_close_60 : decode cX2_close 60 = .ok (.getfield 12, 3) := by decide +kernel
theorem dX2_close_63 : decode cX2_close 63 = .ok (.iload_n 1, 1) := by decide +kernel
theorem dX2_close_64 : decode cX2_close 64 = .ok (.invokevirtual 114, 3) := by decide +kernel
theorem dX2_close_67 : decode cX2_close 67 = .ok (.aload_n 0, 1) := by decide +kernel
theorem dX2_close_68 : decode cX2_close 68 = .ok (.getfield 18, 3) := by decide +kernel
theorem dX2_close_71 : decode cX2_close 71 = .ok (.iload_n 1, 1) := by decide +kernel
theorem dX2_close_72 : decode cX2_close 72 = .ok (.invokevirtual 114, 3) := by decide +kernel
theorem dX2_close_75 : decode cX2_close 75 = .ok (.aload_n 0, 1) := by decide +kernel
theorem dX2_close_76 : decode cX2_close 76 = .ok (.getfield 21, 3) := by decide +kernel
theorem dX2_close_79 : decode cX2_close 79 = .ok (.iload_n 1, 1) := by decide +kernel
theorem dX2_close_80 : decode cX2_close 80 = .ok (.invokevirtual 114, 3) := by decide +kernel
theorem dX2_close_83 : decode cX2_close 83 = .ok (.return_, 1) := by decide +kernel
theorem dX2_close_31 : decode cX2_close 31 = .ok (.aload_n 0, 1) := by decide +kernel
theorem dX2_close_32 : decode cX2_close 32 = .ok (.getfield 29, 3) := by decide +kernel
theorem dX2_close_35 : decode cX2_close 35 = .ok (.iconst 2, 1) := by decide +kernel
theorem dX2_close_36 : decode cX2_close 36 = .ok (.aload_n 0, 1) := by decide +kernel
theorem dX2_close_37 : decode cX2_close 37 = .ok (.getfield 39, 3) := by decide +kernel
theorem dX2_close_40 : decode cX2_close 40 = .ok (.iload_n 2, 1) := by decide +kernel
theorem dX2_close_41 : decode cX2_close 41 = .ok (.invokevirtual 73, 3) := by decide +kernel
theorem dX2_close_44 : decode cX2_close 44 = .ok (.imul, 1) := by decide +kernel
theorem dX2_close_45 : decode cX2_close 45 = .ok (.aload_n 0, 1) := by decide +kernel
theorem dX2_close_46 : decode cX2_close 46 = .ok (.getfield 18, 3) := by decide +kernel
theorem dX2_close_49 : decode cX2_close 49 = .ok (.iload_n 1, 1) := by decide +kernel
theorem dX2_close_50 : decode cX2_close 50 = .ok (.invokevirtual 80, 3) := by decide +kernel
theorem dX2_close_53 : decode cX2_close 53 = .ok (.iadd, 1) := by decide +kernel
theorem dX2_close_54 : decode cX2_close 54 = .ok (.bipush (-9), 2) := by decide +kernel
theorem dX2_close_56 : decode cX2_close 56 = .ok (.invokevirtual 86, 3) := by decide +kernel
