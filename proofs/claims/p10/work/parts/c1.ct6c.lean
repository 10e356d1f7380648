theorem dX2_goOn_0 : decode cX2_goOn 0 = .ok (.aload_n 0, 1) := by decide +kernel
theorem dX2_goOn_1 : decode cX2_goOn 1 = .ok (.getfield 12, 3) := by decide +kernel
theorem dX2_goOn_4 : decode cX2_goOn 4 = .ok (.getfield 51, 3) := by decide +kernel
theorem dX2_goOn_7 : decode cX2_goOn 7 = .ok (.iconst 1, 1) := by decide +kernel
theorem dX2_goOn_8 : decode cX2_goOn 8 = .ok (.isub, 1) := by decide +kernel
theorem dX2_goOn_9 : decode cX2_goOn 9 = .ok (.istore_n 1, 1) := by decide +kernel
theorem dX2_goOn_10 : decode cX2_goOn 10 = .ok (.aload_n 0, 1) := by decide +kernel
theorem dX2_goOn_11 : decode cX2_goOn 11 = .ok (.getfield 12, 3) := by decide +kernel
theorem dX2_goOn_14 : decode cX2_goOn 14 = .ok (.iload_n 1, 1) := by decide +kernel
theorem dX2_goOn_15 : decode cX2_goOn 15 = .ok (.invokevirtual 80, 3) := by decide +kernel
theorem dX2_goOn_18 : decode cX2_goOn 18 = .ok (.istore_n 2, 1) := by decide +kernel
theorem dX2_goOn_19 : decode cX2_goOn 19 = .ok (.aload_n 0, 1) := by decide +kernel
theorem dX2_goOn_20 : decode cX2_goOn 20 = .ok (.getfield 18, 3) := by decide +kernel
theorem dX2_goOn_23 : decode cX2_goOn 23 = .ok (.iload_n 1, 1) := by decide +kernel
theorem dX2_goOn_24 : decode cX2_goOn 24 = .ok (.invokevirtual 80, 3) := by decide +kernel
theorem dX2_goOn_27 : decode cX2_goOn 27 = .ok (.istore_n 3, 1) := by decide +kernel
theorem dX2_goOn_28 : decode cX2_goOn 28 = .ok (.aload_n 0, 1) := by decide +kernel
theorem dX2_goOn_29 : decode cX2_goOn 29 = .ok (.getfield 21, 3) := by decide +kernel
theorem dX2_goOn_32 : decode cX2_goOn 32 = .ok (.iload_n 1, 1) := by decide +kernel
theorem dX2_goOn_33 : decode cX2_goOn 33 = .ok (.invokevirtual 80, 3) := by decide +kernel
theorem dX2_goOn_36 : decode cX2_goOn 36 = .ok (.istore 4, 2) := by decide +kernel
theorem dX2_goOn_38 : decode cX2_goOn 38 = .ok (.aload_n 0, 1) := by decide +kernel
theorem dX2_goOn_39 : decode cX2_goOn 39 = .ok (.getfield 39, 3) := by decide +kernel
theorem dX2_goOn_42 : decode cX2_goOn 42 = .ok (.iload_n 2, 1) := by decide +kernel
theorem dX2_goOn_43 : decode cX2_goOn 43 = .ok (.invokevirtual 65, 3) := by decide +kernel
theorem dX2_goOn_46 : decode cX2_goOn 46 = .ok (.istore 5, 2) := by decide +kernel
theorem dX2_goOn_48 : decode cX2_goOn 48 = .ok (.aload_n 0, 1) := by decide +kernel
theorem dX2_goOn_49 : decode cX2_goOn 49 = .ok (.getfield 21, 3) := by decide +kernel
theorem dX2_goOn_52 : decode cX2_goOn 52 = .ok (.iload_n 1, 1) := by decide +kernel
theorem dX2_goOn_53 : decode cX2_goOn 53 = .ok (.iload 4, 2) := by decide +kernel
theorem dX2_goOn_55 : decode cX2_goOn 55 = .ok (.iconst 1, 1) := by decide +kernel
theorem dX2_goOn_56 : decode cX2_goOn 56 = .ok (.iadd, 1) := by decide +kernel
theorem dX2_goOn_57 : decode cX2_goOn 57 = .ok (.invokevirtual 86, 3) := by decide +kernel
theorem dX2_goOn_60 : decode cX2_goOn 60 = .ok (.iload 5, 2) := by decide +kernel
theorem dX2_goOn_62 : decode cX2_goOn 62 = .ok (.iconst 2, 1) := by decide +kernel
theorem dX2_goOn_63 : decode cX2_goOn 63 = .ok (.if_icmp .ne 32, 3) := by decide +kernel
theorem dX2_goOn_95 : decode cX2_goOn 95 = .ok (.iload 5, 2) := by decide +kernel
theorem dX2_goOn_97 : decode cX2_goOn 97 = .ok (.iconst 2, 1) := by decide +kernel
theorem dX2_goOn_98 : decode cX2_goOn 98 = .ok (.if_icmp .ne 25, 3) := by decide +kernel
theorem dX2_goOn_123 : decode cX2_goOn 123 = .ok (.iload 5, 2) := by decide +kernel
theorem dX2_goOn_125 : decode cX2_goOn 125 = .ok (.iconst 3, 1) := by decide +kernel
theorem dX2_goOn_126 : decode cX2_goOn 126 = .ok (.if_icmp .ne 51, 3) := by decide +kernel
theorem dX2_goOn_177 : decode cX2_goOn 177 = .ok (.iload 5, 2) := by decide +kernel
theorem dX2_goOn_179 : decode cX2_goOn 179 = .ok (.iconst 4, 1) := by decide +kernel
theorem dX2_goOn_180 : decode cX2_goOn 180 = .ok (.if_icmp .ne 42, 3) := by decide +kernel
theorem dX2_goOn_222 : decode cX2_goOn 222 = .ok (.iload 5, 2) := by decide +kernel
theorem dX2_goOn_224 : decode cX2_goOn 224 = .ok (.iconst 3, 1) := by decide +kernel
theorem dX2_goOn_225 : decode cX2_goOn 225 = .ok (.if_icmp .ne 12, 3) := by decide +kernel
theorem dX2_goOn_237 : decode cX2_goOn 237 = .ok (.iload 5, 2) := by decide +kernel
theorem dX2_goOn_239 : decode cX2_goOn 239 = .ok (.iconst 4, 1) := by decide +kernel
theorem dX2_goOn_240 : decode cX2_goOn 240 = .ok (.if_icmp .ne 12, 3) := by decide +kernel
theorem dX2_goOn_252 : decode cX2_goOn 252 = .ok (.aload_n 0, 1) := by decide +kernel
theorem dX2_goOn_253 : decode cX2_goOn 253 = .ok (.invokevirtual 59, 3) := by decide +kernel
theorem dX2_goOn_256 : decode cX2_goOn 256 = .ok (.return_, 1) := by decide +kernel
theorem dX2_goOn_183 : decode cX2_goOn 183 = .ok (.iload 4, 2) := by decide +kernel
theorem dX2_goOn_185 : decode cX2_goOn 185 = .ok (.aload_n 0, 1) := by decide +kernel
theorem dX2_goOn_186 : decode cX2_goOn 186 = .ok (.getfield 39, 3) := by decide +kernel
theorem dX2_goOn_189 : decode cX2_goOn 189 = .ok (.iload_n 2, 1) := by decide +kernel
theorem dX2_goOn_190 : decode cX2_goOn 190 = .ok (.iload_n 3, 1) := by decide +kernel
theorem dX2_goOn_191 : decode cX2_goOn 191 = .ok (.invokevirtual 76, 3) := by decide +kernel
theorem dX2_goOn_194 : decode cX2_goOn 194 = .ok (.getfield 51, 3) := by decide +kernel
theorem dX2_goOn_197 : decode cX2_goOn 197 = .ok (.if_icmp .ge 25, 3) := by decide +kernel
theorem dX2_goOn_243 : decode cX2_goOn 243 = .ok (.aload_n 0, 1) := by decide +kernel
theorem dX2_goOn_244 : decode cX2_goOn 244 = .ok (.getfield 35, 3) := by decide +kernel
theorem dX2_goOn_247 : decode cX2_goOn 247 = .ok (.bipush 46, 2) := by decide +kernel
theorem dX2_goOn_249 : decode cX2_goOn 249 = .ok (.invokevirtual 69, 3) := by decide +kernel
theorem dX2_goOn_200 : decode cX2_goOn 200 = .ok (.aload_n 0, 1) := by decide +kernel
theorem dX2_goOn_201 : decode cX2_goOn 201 = .ok (.aload_n 0, 1) := by decide +kernel
theorem dX2_goOn_202 : decode cX2_goOn 202 = .ok (.getfield 39, 3) := by decide +kernel
theorem dX2_goOn_205 : decode cX2_goOn 205 = .ok (.iload_n 2, 1) := by decide +kernel
theorem dX2_goOn_206 : decode cX2_goOn 206 = .ok (.iload_n 3, 1) := by decide +kernel
theorem dX2_goOn_207 : decode cX2_goOn 207 = .ok (.invokevirtual 76, 3) := by decide +kernel
theorem dX2_goOn_210 : decode cX2_goOn 210 = .ok (.iload 4, 2) := by decide +kernel
theorem dX2_goOn_212 : decode cX2_goOn 212 = .ok (.invokevirtual 80, 3) := by decide +kernel
theorem dX2_goOn_215 : decode cX2_goOn 215 = .ok (.iload_n 3, 1) := by decide +kernel
theorem dX2_goOn_216 : decode cX2_goOn 216 = .ok (.invokevirtual 46, 3) := by decide +kernel
theorem dX2_goOn_219 : decode cX2_goOn 219 = .ok (.goto 37, 3) := by decide +kernel
theorem dX2_goOn_129 : decode cX2_goOn 129 = .ok (.iload 4, 2) := by decide +kernel
theorem dX2_goOn_131 : decode cX2_goOn 131 = .ok (.aload_n 0, 1) := by decide +kernel
theorem dX2_goOn_132 : decode cX2_goOn 132 = .ok (.getfield 39, 3) := by decide +kernel
theorem dX2_goOn_135 : decode cX2_goOn 135 = .ok (.iload_n 2, 1) := by decide +kernel
theorem dX2_goOn_136 : decode cX2_goOn 136 = .ok (.invokevirtual 101, 3) := by decide +kernel
theorem dX2_goOn_139 : decode cX2_goOn 139 = .ok (.if_icmp .ge 38, 3) := by decide +kernel
theorem dX2_goOn_228 : decode cX2_goOn 228 = .ok (.aload_n 0, 1) := by decide +kernel
theorem dX2_goOn_229 : decode cX2_goOn 229 = .ok (.getfield 35, 3) := by decide +kernel
theorem dX2_goOn_232 : decode cX2_goOn 232 = .ok (.bipush 125, 2) := by decide +kernel
theorem dX2_goOn_234 : decode cX2_goOn 234 = .ok (.invokevirtual 69, 3) := by decide +kernel
theorem dX2_goOn_142 : decode cX2_goOn 142 = .ok (.aload_n 0, 1) := by decide +kernel
theorem dX2_goOn_143 : decode cX2_goOn 143 = .ok (.getfield 35, 3) := by decide +kernel
theorem dX2_goOn_146 : decode cX2_goOn 146 = .ok (.aload_n 0, 1) := by decide +kernel
theorem dX2_goOn_147 : decode cX2_goOn 147 = .ok (.getfield 39, 3) := by decide +kernel
theorem dX2_goOn_150 : decode cX2_goOn 150 = .ok (.iload_n 2, 1) := by decide +kernel
theorem dX2_goOn_151 : decode cX2_goOn 151 = .ok (.iload 4, 2) := by decide +kernel
theorem dX2_goOn_153 : decode cX2_goOn 153 = .ok (.invokevirtual 104, 3) := by decide +kernel
theorem dX2_goOn_156 : decode cX2_goOn 156 = .ok (.invokevirtual 108, 3) := by decide +kernel
theorem dX2_goOn_159 : decode cX2_goOn 159 = .ok (.aload_n 0, 1) := by decide +kernel
theorem dX2_goOn_160 : decode cX2_goOn 160 = .ok (.aload_n 0, 1) := by decide +kernel
theorem dX2_goOn_161 : decode cX2_goOn 161 = .ok (.getfield 39, 3) := by decide +kernel
theorem dX2_goOn_164 : decode cX2_goOn 164 = .ok (.iload_n 2, 1) := by decide +kernel
theorem dX2_goOn_165 : decode cX2_goOn 165 = .ok (.iload 4, 2) := by decide +kernel
theorem dX2_goOn_167 : decode cX2_goOn 167 = .ok (.invokevirtual 111, 3) := by decide +kernel
theorem dX2_goOn_170 : decode cX2_goOn 170 = .ok (.iload_n 3, 1) := by decide +kernel
theorem dX2_goOn_171 : decode cX2_goOn 171 = .ok (.invokevirtual 46, 3) := by decide +kernel
theorem dX2_goOn_174 : decode cX2_goOn 174 = .ok (.goto 82, 3) := by decide +kernel
theorem dX2_goOn_66 : decode cX2_goOn 66 = .ok (.iload 4, 2) := by decide +kernel
theorem dX2_goOn_68 : decode cX2_goOn 68 = .ok (.ifCond .ne 27, 3) := by decide +kernel
theorem dX2_goOn_101 : decode cX2_goOn 101 = .ok (.iload 4, 2) := by decide +kernel
theorem dX2_goOn_103 : decode cX2_goOn 103 = .ok (.iconst 1, 1) := by decide +kernel
theorem dX2_goOn_104 : decode cX2_goOn 104 = .ok (.if_icmp .ne 19, 3) := by decide +kernel
theorem dX2_goOn_107 : decode cX2_goOn 107 = .ok (.aload_n 0, 1) := by decide +kernel
theorem dX2_goOn_108 : decode cX2_goOn 108 = .ok (.aload_n 0, 1) := by decide +kernel
theorem dX2_goOn_109 : decode cX2_goOn 109 = .ok (.getfield 39, 3) := by decide +kernel
theorem dX2_goOn_112 : decode cX2_goOn 112 = .ok (.iload_n 2, 1) := by decide +kernel
theorem dX2_goOn_113 : decode cX2_goOn 113 = .ok (.invokevirtual 98, 3) := by decide +kernel
theorem dX2_goOn_116 : decode cX2_goOn 116 = .ok (.iload_n 3, 1) := by decide +kernel
theorem dX2_goOn_117 : decode cX2_goOn 117 = .ok (.invokevirtual 46, 3) := by decide +kernel
theorem dX2_goOn_120 : decode cX2_goOn 120 = .ok (.goto 136, 3) := by decide +kernel
theorem dX2_goOn_71 : decode cX2_goOn 71 = .ok (.aload_n 0, 1) := by decide +kernel
theorem dX2_goOn_72 : decode cX2_goOn 72 = .ok (.aload_n 0, 1) := by decide +kernel
theorem dX2_goOn_73 : decode cX2_goOn 73 = .ok (.getfield 39, 3) := by decide +kernel
theorem dX2_goOn_76 : decode cX2_goOn 76 = .ok (.iload_n 2, 1) := by decide +kernel
theorem dX2_goOn_77 : decode cX2_goOn 77 = .ok (.invokevirtual 95, 3) := by decide +kernel
theorem dX2_goOn_80 : decode cX2_goOn 80 = .ok (.iload_n 3, 1) := by decide +kernel
theorem dX2_goOn_81 : decode cX2_goOn 81 = .ok (.ifCond .ne 7, 3) := by decide +kernel
theorem dX2_goOn_88 : decode cX2_goOn 88 = .ok (.iconst 0, 1) := by decide +kernel
theorem dX2_goOn_89 : decode cX2_goOn 89 = .ok (.invokevirtual 46, 3) := by decide +kernel
theorem dX2_goOn_92 : decode cX2_goOn 92 = .ok (.goto 164, 3) := by decide +kernel
theorem dX2_goOn_84 : decode cX2_goOn 84 = .ok (.iconst 1, 1) := by decide +kernel
theorem dX2_goOn_85 : decode cX2_goOn 85 = .ok (.goto 4, 3) := by decide +kernel
