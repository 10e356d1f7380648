theorem dX3_addNode_0 : decode cX3_addNode 0 = .ok (.aload_n 0, 1) := by decide +kernel
theorem dX3_addNode_1 : decode cX3_addNode 1 = .ok (.getfield 12, 3) := by decide +kernel
theorem dX3_addNode_4 : decode cX3_addNode 4 = .ok (.getfield 47, 3) := by decide +kernel
theorem dX3_addNode_7 : decode cX3_addNode 7 = .ok (.istore 6, 2) := by decide +kernel
theorem dX3_addNode_30 : decode cX3_addNode 30 = .ok (.istore 7, 2) := by decide +kernel
theorem dX3_addNode_32 : decode cX3_addNode 32 = .ok (.aload_n 0, 1) := by decide +kernel
theorem dX3_addNode_33 : decode cX3_addNode 33 = .ok (.getfield 12, 3) := by decide +kernel
theorem dX3_addNode_36 : decode cX3_addNode 36 = .ok (.iload_n 1, 1) := by decide +kernel
theorem dX3_addNode_37 : decode cX3_addNode 37 = .ok (.invokevirtual 64, 3) := by decide +kernel
theorem dX3_addNode_40 : decode cX3_addNode 40 = .ok (.aload_n 0, 1) := by decide +kernel
theorem dX3_addNode_41 : decode cX3_addNode 41 = .ok (.getfield 18, 3) := by decide +kernel
theorem dX3_addNode_55 : decode cX3_addNode 55 = .ok (.invokevirtual 64, 3) := by decide +kernel
theorem dX3_addNode_58 : decode cX3_addNode 58 = .ok (.aload_n 0, 1) := by decide +kernel
theorem dX3_addNode_59 : decode cX3_addNode 59 = .ok (.getfield 21, 3) := by decide +kernel
theorem dX3_addNode_62 : decode cX3_addNode 62 = .ok (.bipush (-9), 2) := by decide +kernel
theorem dX3_addNode_64 : decode cX3_addNode 64 = .ok (.invokevirtual 64, 3) := by decide +kernel
theorem dX3_addNode_67 : decode cX3_addNode 67 = .ok (.aload_n 0, 1) := by decide +kernel
theorem dX3_addNode_68 : decode cX3_addNode 68 = .ok (.getfield 24, 3) := by decide +kernel
theorem dX3_addNode_71 : decode cX3_addNode 71 = .ok (.iconst 0, 1) := by decide +kernel
theorem dX3_addNode_72 : decode cX3_addNode 72 = .ok (.invokevirtual 64, 3) := by decide +kernel
theorem dX3_addNode_75 : decode cX3_addNode 75 = .ok (.iconst 0, 1) := by decide +kernel
theorem dX3_addNode_76 : decode cX3_addNode 76 = .ok (.istore 8, 2) := by decide +kernel
theorem dX3_addNode_78 : decode cX3_addNode 78 = .ok (.iload 8, 2) := by decide +kernel
theorem dX3_addNode_80 : decode cX3_addNode 80 = .ok (.bipush 6, 2) := by decide +kernel
theorem dX3_addNode_82 : decode cX3_addNode 82 = .ok (.if_icmp .ge 27, 3) := by decide +kernel
theorem dX3_addNode_85 : decode cX3_addNode 85 = .ok (.aload_n 0, 1) := by decide +kernel
theorem dX3_addNode_86 : decode cX3_addNode 86 = .ok (.getfield 27, 3) := by decide +kernel
theorem dX3_addNode_89 : decode cX3_addNode 89 = .ok (.bipush (-9), 2) := by decide +kernel
theorem dX3_addNode_91 : decode cX3_addNode 91 = .ok (.invokevirtual 64, 3) := by decide +kernel
theorem dX3_addNode_94 : decode cX3_addNode 94 = .ok (.aload_n 0, 1) := by decide +kernel
theorem dX3_addNode_95 : decode cX3_addNode 95 = .ok (.getfield 30, 3) := by decide +kernel
theorem dX3_addNode_98 : decode cX3_addNode 98 = .ok (.bipush (-9), 2) := by decide +kernel
theorem dX3_addNode_100 : decode cX3_addNode 100 = .ok (.invokevirtual 64, 3) := by decide +kernel
theorem dX3_addNode_103 : decode cX3_addNode 103 = .ok (.iinc 8 1, 3) := by decide +kernel
theorem dX3_addNode_106 : decode cX3_addNode 106 = .ok (.goto (-28), 3) := by decide +kernel
theorem dX3_addNode_109 : decode cX3_addNode 109 = .ok (.iload_n 1, 1) := by decide +kernel
theorem dX3_addNode_110 : decode cX3_addNode 110 = .ok (.invokestatic 68, 3) := by decide +kernel
theorem dX3_addNode_113 : decode cX3_addNode 113 = .ok (.istore 8, 2) := by decide +kernel
theorem dX3_addNode_115 : decode cX3_addNode 115 = .ok (.iload 8, 2) := by decide +kernel
theorem dX3_addNode_117 : decode cX3_addNode 117 = .ok (.iconst 1, 1) := by decide +kernel
theorem dX3_addNode_118 : decode cX3_addNode 118 = .ok (.if_icmp .lt 12, 3) := by decide +kernel
theorem dX3_addNode_130 : decode cX3_addNode 130 = .ok (.iload 8, 2) := by decide +kernel
theorem dX3_addNode_132 : decode cX3_addNode 132 = .ok (.iconst 2, 1) := by decide +kernel
theorem dX3_addNode_133 : decode cX3_addNode 133 = .ok (.if_icmp .lt 13, 3) := by decide +kernel
theorem dX3_addNode_146 : decode cX3_addNode 146 = .ok (.iload 8, 2) := by decide +kernel
theorem dX3_addNode_148 : decode cX3_addNode 148 = .ok (.iconst 3, 1) := by decide +kernel
theorem dX3_addNode_149 : decode cX3_addNode 149 = .ok (.if_icmp .lt 13, 3) := by decide +kernel
theorem dX3_addNode_162 : decode cX3_addNode 162 = .ok (.iload 6, 2) := by decide +kernel
theorem dX3_addNode_164 : decode cX3_addNode 164 = .ok (.ireturn, 1) := by decide +kernel
theorem dX3_addNode_152 : decode cX3_addNode 152 = .ok (.aload_n 0, 1) := by decide +kernel
theorem dX3_addNode_153 : decode cX3_addNode 153 = .ok (.iload 6, 2) := by decide +kernel
theorem dX3_addNode_155 : decode cX3_addNode 155 = .ok (.bipush (-9), 2) := by decide +kernel
theorem dX3_addNode_157 : decode cX3_addNode 157 = .ok (.iload 5, 2) := by decide +kernel
theorem dX3_addNode_159 : decode cX3_addNode 159 = .ok (.invokevirtual 71, 3) := by decide +kernel
theorem dX3_addNode_136 : decode cX3_addNode 136 = .ok (.aload_n 0, 1) := by decide +kernel
theorem dX3_addNode_137 : decode cX3_addNode 137 = .ok (.iload 6, 2) := by decide +kernel
theorem dX3_addNode_139 : decode cX3_addNode 139 = .ok (.bipush (-9), 2) := by decide +kernel
theorem dX3_addNode_141 : decode cX3_addNode 141 = .ok (.iload 4, 2) := by decide +kernel
theorem dX3_addNode_143 : decode cX3_addNode 143 = .ok (.invokevirtual 71, 3) := by decide +kernel
theorem dX3_addNode_121 : decode cX3_addNode 121 = .ok (.aload_n 0, 1) := by decide +kernel
theorem dX3_addNode_122 : decode cX3_addNode 122 = .ok (.iload 6, 2) := by decide +kernel
theorem dX3_addNode_124 : decode cX3_addNode 124 = .ok (.bipush (-9), 2) := by decide +kernel
theorem dX3_addNode_126 : decode cX3_addNode 126 = .ok (.iload_n 3, 1) := by decide +kernel
theorem dX3_addNode_127 : decode cX3_addNode 127 = .ok (.invokevirtual 71, 3) := by decide +kernel
theorem dX3_addNode_44 : decode cX3_addNode 44 = .ok (.iload 7, 2) := by decide +kernel
theorem dX3_addNode_46 : decode cX3_addNode 46 = .ok (.ifCond .eq 7, 3) := by decide +kernel
theorem dX3_addNode_53 : decode cX3_addNode 53 = .ok (.bipush (-9), 2) := by decide +kernel
theorem dX3_addNode_49 : decode cX3_addNode 49 = .ok (.iload_n 2, 1) := by decide +kernel
theorem dX3_addNode_50 : decode cX3_addNode 50 = .ok (.goto 5, 3) := by decide +kernel
theorem dX3_addNode_9 : decode cX3_addNode 9 = .ok (.iload_n 1, 1) := by decide +kernel
theorem dX3_addNode_10 : decode cX3_addNode 10 = .ok (.ifCond .eq 15, 3) := by decide +kernel
theorem dX3_addNode_25 : decode cX3_addNode 25 = .ok (.iconst 1, 1) := by decide +kernel
theorem dX3_addNode_26 : decode cX3_addNode 26 = .ok (.goto 4, 3) := by decide +kernel
theorem dX3_addNode_13 : decode cX3_addNode 13 = .ok (.iload_n 1, 1) := by decide +kernel
theorem dX3_addNode_14 : decode cX3_addNode 14 = .ok (.iconst 1, 1) := by decide +kernel
theorem dX3_addNode_15 : decode cX3_addNode 15 = .ok (.if_icmp .eq 10, 3) := by decide +kernel
theorem dX3_addNode_18 : decode cX3_addNode 18 = .ok (.iload_n 1, 1) := by decide +kernel
theorem dX3_addNode_19 : decode cX3_addNode 19 = .ok (.invokestatic 41, 3) := by decide +kernel
theorem dX3_addNode_22 : decode cX3_addNode 22 = .ok (.ifCond .eq 7, 3) := by decide +kernel
theorem dX3_addNode_29 : decode cX3_addNode 29 = .ok (.iconst 0, 1) := by decide +kernel
