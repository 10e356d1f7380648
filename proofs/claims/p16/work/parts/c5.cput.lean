theorem dX6_putValue_0 : decode cX6_putValue 0 = .ok (.aload_n 0, 1) := by decide +kernel
theorem dX6_putValue_1 : decode cX6_putValue 1 = .ok (.getfield 16, 3) := by decide +kernel
theorem dX6_putValue_4 : decode cX6_putValue 4 = .ok (.invokevirtual 150, 3) := by decide +kernel
theorem dX6_putValue_7 : decode cX6_putValue 7 = .ok (.ifCond .ne 10, 3) := by decide +kernel
theorem dX6_putValue_17 : decode cX6_putValue 17 = .ok (.return_, 1) := by decide +kernel
theorem dX6_putValue_10 : decode cX6_putValue 10 = .ok (.iload_n 2, 1) := by decide +kernel
theorem dX6_putValue_11 : decode cX6_putValue 11 = .ok (.sipush 200, 3) := by decide +kernel
theorem dX6_putValue_14 : decode cX6_putValue 14 = .ok (.if_icmp .le 4, 3) := by decide +kernel
theorem dX6_putValue_18 : decode cX6_putValue 18 = .ok (.aload_n 0, 1) := by decide +kernel
theorem dX6_putValue_19 : decode cX6_putValue 19 = .ok (.getfield 27, 3) := by decide +kernel
theorem dX6_putValue_22 : decode cX6_putValue 22 = .ok (.iload_n 1, 1) := by decide +kernel
theorem dX6_putValue_23 : decode cX6_putValue 23 = .ok (.invokevirtual 131, 3) := by decide +kernel
theorem dX6_putValue_26 : decode cX6_putValue 26 = .ok (.istore_n 3, 1) := by decide +kernel
theorem dX6_putValue_27 : decode cX6_putValue 27 = .ok (.aload_n 0, 1) := by decide +kernel
theorem dX6_putValue_28 : decode cX6_putValue 28 = .ok (.getfield 23, 3) := by decide +kernel
theorem dX6_putValue_31 : decode cX6_putValue 31 = .ok (.iload_n 1, 1) := by decide +kernel
theorem dX6_putValue_32 : decode cX6_putValue 32 = .ok (.invokevirtual 131, 3) := by decide +kernel
theorem dX6_putValue_35 : decode cX6_putValue 35 = .ok (.tableswitch 64 0 2 #[25, 34, 54], 25) := by decide +kernel
theorem dX6_putValue_60 : decode cX6_putValue 60 = .ok (.aload_n 0, 1) := by decide +kernel
theorem dX6_putValue_61 : decode cX6_putValue 61 = .ok (.getfield 16, 3) := by decide +kernel
theorem dX6_putValue_64 : decode cX6_putValue 64 = .ok (.iload_n 3, 1) := by decide +kernel
theorem dX6_putValue_65 : decode cX6_putValue 65 = .ok (.invokevirtual 154, 3) := by decide +kernel
theorem dX6_putValue_68 : decode cX6_putValue 68 = .ok (.return_, 1) := by decide +kernel
theorem dX6_putValue_69 : decode cX6_putValue 69 = .ok (.aload_n 0, 1) := by decide +kernel
theorem dX6_putValue_70 : decode cX6_putValue 70 = .ok (.getfield 16, 3) := by decide +kernel
theorem dX6_putValue_73 : decode cX6_putValue 73 = .ok (.iload_n 3, 1) := by decide +kernel
theorem dX6_putValue_74 : decode cX6_putValue 74 = .ok (.iconst 1, 1) := by decide +kernel
theorem dX6_putValue_75 : decode cX6_putValue 75 = .ok (.if_icmp .ne 8, 3) := by decide +kernel
theorem dX6_putValue_83 : decode cX6_putValue 83 = .ok (.bipush 110, 2) := by decide +kernel
theorem dX6_putValue_85 : decode cX6_putValue 85 = .ok (.invokevirtual 157, 3) := by decide +kernel
theorem dX6_putValue_88 : decode cX6_putValue 88 = .ok (.return_, 1) := by decide +kernel
theorem dX6_putValue_78 : decode cX6_putValue 78 = .ok (.bipush 121, 2) := by decide +kernel
theorem dX6_putValue_80 : decode cX6_putValue 80 = .ok (.goto 5, 3) := by decide +kernel
theorem dX6_putValue_89 : decode cX6_putValue 89 = .ok (.aload_n 0, 1) := by decide +kernel
theorem dX6_putValue_90 : decode cX6_putValue 90 = .ok (.getfield 16, 3) := by decide +kernel
theorem dX6_putValue_93 : decode cX6_putValue 93 = .ok (.bipush 102, 2) := by decide +kernel
theorem dX6_putValue_95 : decode cX6_putValue 95 = .ok (.invokevirtual 157, 3) := by decide +kernel
theorem dX6_putValue_98 : decode cX6_putValue 98 = .ok (.return_, 1) := by decide +kernel
theorem dX6_putValue_99 : decode cX6_putValue 99 = .ok (.aload_n 0, 1) := by decide +kernel
theorem dX6_putValue_100 : decode cX6_putValue 100 = .ok (.getfield 16, 3) := by decide +kernel
theorem dX6_putValue_103 : decode cX6_putValue 103 = .ok (.bipush 123, 2) := by decide +kernel
theorem dX6_putValue_105 : decode cX6_putValue 105 = .ok (.invokevirtual 157, 3) := by decide +kernel
theorem dX6_putValue_108 : decode cX6_putValue 108 = .ok (.aload_n 0, 1) := by decide +kernel
theorem dX6_putValue_109 : decode cX6_putValue 109 = .ok (.getfield 55, 3) := by decide +kernel
theorem dX6_putValue_112 : decode cX6_putValue 112 = .ok (.iload_n 3, 1) := by decide +kernel
theorem dX6_putValue_113 : decode cX6_putValue 113 = .ok (.invokevirtual 141, 3) := by decide +kernel
theorem dX6_putValue_116 : decode cX6_putValue 116 = .ok (.istore 4, 2) := by decide +kernel
theorem dX6_putValue_118 : decode cX6_putValue 118 = .ok (.iconst 0, 1) := by decide +kernel
theorem dX6_putValue_119 : decode cX6_putValue 119 = .ok (.istore 5, 2) := by decide +kernel
theorem dX6_putValue_121 : decode cX6_putValue 121 = .ok (.iload 5, 2) := by decide +kernel
theorem dX6_putValue_123 : decode cX6_putValue 123 = .ok (.iload 4, 2) := by decide +kernel
theorem dX6_putValue_125 : decode cX6_putValue 125 = .ok (.if_icmp .ge 61, 3) := by decide +kernel
theorem dX6_putValue_186 : decode cX6_putValue 186 = .ok (.aload_n 0, 1) := by decide +kernel
theorem dX6_putValue_187 : decode cX6_putValue 187 = .ok (.getfield 16, 3) := by decide +kernel
theorem dX6_putValue_190 : decode cX6_putValue 190 = .ok (.bipush 125, 2) := by decide +kernel
theorem dX6_putValue_192 : decode cX6_putValue 192 = .ok (.invokevirtual 157, 3) := by decide +kernel
theorem dX6_putValue_195 : decode cX6_putValue 195 = .ok (.return_, 1) := by decide +kernel
theorem dX6_putValue_128 : decode cX6_putValue 128 = .ok (.aload_n 0, 1) := by decide +kernel
theorem dX6_putValue_129 : decode cX6_putValue 129 = .ok (.getfield 16, 3) := by decide +kernel
theorem dX6_putValue_132 : decode cX6_putValue 132 = .ok (.invokevirtual 150, 3) := by decide +kernel
theorem dX6_putValue_135 : decode cX6_putValue 135 = .ok (.ifCond .ne 51, 3) := by decide +kernel
theorem dX6_putValue_138 : decode cX6_putValue 138 = .ok (.aload_n 0, 1) := by decide +kernel
theorem dX6_putValue_139 : decode cX6_putValue 139 = .ok (.getfield 16, 3) := by decide +kernel
theorem dX6_putValue_142 : decode cX6_putValue 142 = .ok (.aload_n 0, 1) := by decide +kernel
theorem dX6_putValue_143 : decode cX6_putValue 143 = .ok (.getfield 55, 3) := by decide +kernel
theorem dX6_putValue_146 : decode cX6_putValue 146 = .ok (.iload_n 3, 1) := by decide +kernel
theorem dX6_putValue_147 : decode cX6_putValue 147 = .ok (.iload 5, 2) := by decide +kernel
theorem dX6_putValue_149 : decode cX6_putValue 149 = .ok (.invokevirtual 161, 3) := by decide +kernel
theorem dX6_putValue_152 : decode cX6_putValue 152 = .ok (.invokevirtual 164, 3) := by decide +kernel
theorem dX6_putValue_155 : decode cX6_putValue 155 = .ok (.aload_n 0, 1) := by decide +kernel
theorem dX6_putValue_156 : decode cX6_putValue 156 = .ok (.aload_n 0, 1) := by decide +kernel
theorem dX6_putValue_157 : decode cX6_putValue 157 = .ok (.getfield 33, 3) := by decide +kernel
theorem dX6_putValue_160 : decode cX6_putValue 160 = .ok (.aload_n 0, 1) := by decide +kernel
theorem dX6_putValue_161 : decode cX6_putValue 161 = .ok (.getfield 30, 3) := by decide +kernel
theorem dX6_putValue_164 : decode cX6_putValue 164 = .ok (.iload_n 1, 1) := by decide +kernel
theorem dX6_putValue_165 : decode cX6_putValue 165 = .ok (.invokevirtual 131, 3) := by decide +kernel
theorem dX6_putValue_168 : decode cX6_putValue 168 = .ok (.iload 5, 2) := by decide +kernel
theorem dX6_putValue_170 : decode cX6_putValue 170 = .ok (.iadd, 1) := by decide +kernel
theorem dX6_putValue_171 : decode cX6_putValue 171 = .ok (.invokevirtual 131, 3) := by decide +kernel
theorem dX6_putValue_174 : decode cX6_putValue 174 = .ok (.iload_n 2, 1) := by decide +kernel
theorem dX6_putValue_175 : decode cX6_putValue 175 = .ok (.iconst 1, 1) := by decide +kernel
theorem dX6_putValue_176 : decode cX6_putValue 176 = .ok (.iadd, 1) := by decide +kernel
theorem dX6_putValue_177 : decode cX6_putValue 177 = .ok (.invokevirtual 66, 3) := by decide +kernel
theorem dX6_putValue_180 : decode cX6_putValue 180 = .ok (.iinc 5 1, 3) := by decide +kernel
theorem dX6_putValue_183 : decode cX6_putValue 183 = .ok (.goto (-62), 3) := by decide +kernel
theorem dX6_startAnew_0 : decode cX6_startAnew 0 = .ok (.aload_n 0, 1) := by decide +kernel
theorem dX6_startAnew_1 : decode cX6_startAnew 1 = .ok (.getfield 23, 3) := by decide +kernel
theorem dX6_startAnew_4 : decode cX6_startAnew 4 = .ok (.iconst 0, 1) := by decide +kernel
theorem dX6_startAnew_5 : decode cX6_startAnew 5 = .ok (.invokevirtual 70, 3) := by decide +kernel
theorem dX6_startAnew_8 : decode cX6_startAnew 8 = .ok (.aload_n 0, 1) := by decide +kernel
theorem dX6_startAnew_9 : decode cX6_startAnew 9 = .ok (.getfield 27, 3) := by decide +kernel
theorem dX6_startAnew_12 : decode cX6_startAnew 12 = .ok (.iconst 0, 1) := by decide +kernel
theorem dX6_startAnew_13 : decode cX6_startAnew 13 = .ok (.invokevirtual 70, 3) := by decide +kernel
theorem dX6_startAnew_16 : decode cX6_startAnew 16 = .ok (.aload_n 0, 1) := by decide +kernel
theorem dX6_startAnew_17 : decode cX6_startAnew 17 = .ok (.getfield 30, 3) := by decide +kernel
theorem dX6_startAnew_20 : decode cX6_startAnew 20 = .ok (.iconst 0, 1) := by decide +kernel
theorem dX6_startAnew_21 : decode cX6_startAnew 21 = .ok (.invokevirtual 70, 3) := by decide +kernel
theorem dX6_startAnew_24 : decode cX6_startAnew 24 = .ok (.aload_n 0, 1) := by decide +kernel
theorem dX6_startAnew_25 : decode cX6_startAnew 25 = .ok (.getfield 33, 3) := by decide +kernel
theorem dX6_startAnew_28 : decode cX6_startAnew 28 = .ok (.iconst 0, 1) := by decide +kernel
theorem dX6_startAnew_29 : decode cX6_startAnew 29 = .ok (.invokevirtual 70, 3) := by decide +kernel
theorem dX6_startAnew_32 : decode cX6_startAnew 32 = .ok (.aload_n 0, 1) := by decide +kernel
theorem dX6_startAnew_33 : decode cX6_startAnew 33 = .ok (.getfield 36, 3) := by decide +kernel
theorem dX6_startAnew_36 : decode cX6_startAnew 36 = .ok (.iconst 0, 1) := by decide +kernel
theorem dX6_startAnew_37 : decode cX6_startAnew 37 = .ok (.invokevirtual 70, 3) := by decide +kernel
theorem dX6_startAnew_40 : decode cX6_startAnew 40 = .ok (.aload_n 0, 1) := by decide +kernel
theorem dX6_startAnew_41 : decode cX6_startAnew 41 = .ok (.getfield 39, 3) := by decide +kernel
theorem dX6_startAnew_44 : decode cX6_startAnew 44 = .ok (.iconst 0, 1) := by decide +kernel
theorem dX6_startAnew_45 : decode cX6_startAnew 45 = .ok (.invokevirtual 70, 3) := by decide +kernel
theorem dX6_startAnew_48 : decode cX6_startAnew 48 = .ok (.aload_n 0, 1) := by decide +kernel
theorem dX6_startAnew_49 : decode cX6_startAnew 49 = .ok (.getfield 42, 3) := by decide +kernel
theorem dX6_startAnew_52 : decode cX6_startAnew 52 = .ok (.iconst 0, 1) := by decide +kernel
theorem dX6_startAnew_53 : decode cX6_startAnew 53 = .ok (.invokevirtual 70, 3) := by decide +kernel
theorem dX6_startAnew_56 : decode cX6_startAnew 56 = .ok (.aload_n 0, 1) := by decide +kernel
theorem dX6_startAnew_57 : decode cX6_startAnew 57 = .ok (.getfield 45, 3) := by decide +kernel
theorem dX6_startAnew_60 : decode cX6_startAnew 60 = .ok (.iconst 0, 1) := by decide +kernel
theorem dX6_startAnew_61 : decode cX6_startAnew 61 = .ok (.invokevirtual 70, 3) := by decide +kernel
theorem dX6_startAnew_64 : decode cX6_startAnew 64 = .ok (.aload_n 0, 1) := by decide +kernel
theorem dX6_startAnew_65 : decode cX6_startAnew 65 = .ok (.getfield 16, 3) := by decide +kernel
theorem dX6_startAnew_68 : decode cX6_startAnew 68 = .ok (.invokevirtual 73, 3) := by decide +kernel
theorem dX6_startAnew_71 : decode cX6_startAnew 71 = .ok (.aload_n 0, 1) := by decide +kernel
theorem dX6_startAnew_72 : decode cX6_startAnew 72 = .ok (.iload_n 1, 1) := by decide +kernel
theorem dX6_startAnew_73 : decode cX6_startAnew 73 = .ok (.putfield 76, 3) := by decide +kernel
theorem dX6_startAnew_76 : decode cX6_startAnew 76 = .ok (.aload_n 0, 1) := by decide +kernel
theorem dX6_startAnew_77 : decode cX6_startAnew 77 = .ok (.iconst 0, 1) := by decide +kernel
theorem dX6_startAnew_78 : decode cX6_startAnew 78 = .ok (.putfield 79, 3) := by decide +kernel
theorem dX6_startAnew_81 : decode cX6_startAnew 81 = .ok (.aload_n 0, 1) := by decide +kernel
theorem dX6_startAnew_82 : decode cX6_startAnew 82 = .ok (.bipush (-9), 2) := by decide +kernel
theorem dX6_startAnew_84 : decode cX6_startAnew 84 = .ok (.putfield 48, 3) := by decide +kernel
theorem dX6_startAnew_87 : decode cX6_startAnew 87 = .ok (.return_, 1) := by decide +kernel
theorem dX6_workProgram_0 : decode cX6_workProgram 0 = .ok (.aload_n 0, 1) := by decide +kernel
theorem dX6_workProgram_1 : decode cX6_workProgram 1 = .ok (.iload_n 2, 1) := by decide +kernel
theorem dX6_workProgram_2 : decode cX6_workProgram 2 = .ok (.invokevirtual 59, 3) := by decide +kernel
theorem dX6_workProgram_5 : decode cX6_workProgram 5 = .ok (.aload_n 0, 1) := by decide +kernel
theorem dX6_workProgram_6 : decode cX6_workProgram 6 = .ok (.iload_n 1, 1) := by decide +kernel
theorem dX6_workProgram_7 : decode cX6_workProgram 7 = .ok (.bipush (-9), 2) := by decide +kernel
theorem dX6_workProgram_9 : decode cX6_workProgram 9 = .ok (.iconst 1, 1) := by decide +kernel
theorem dX6_workProgram_10 : decode cX6_workProgram 10 = .ok (.invokevirtual 62, 3) := by decide +kernel
theorem dX6_workProgram_13 : decode cX6_workProgram 13 = .ok (.istore_n 3, 1) := by decide +kernel
theorem dX6_workProgram_14 : decode cX6_workProgram 14 = .ok (.iload_n 3, 1) := by decide +kernel
theorem dX6_workProgram_15 : decode cX6_workProgram 15 = .ok (.ifCond .lt 17, 3) := by decide +kernel
theorem dX6_workProgram_32 : decode cX6_workProgram 32 = .ok (.aload_n 0, 1) := by decide +kernel
theorem dX6_workProgram_33 : decode cX6_workProgram 33 = .ok (.iload_n 3, 1) := by decide +kernel
theorem dX6_workProgram_34 : decode cX6_workProgram 34 = .ok (.bipush (-6), 2) := by decide +kernel
theorem dX6_workProgram_36 : decode cX6_workProgram 36 = .ok (.if_icmp .ne 7, 3) := by decide +kernel
theorem dX6_workProgram_43 : decode cX6_workProgram 43 = .ok (.iconst 1, 1) := by decide +kernel
theorem dX6_workProgram_44 : decode cX6_workProgram 44 = .ok (.putfield 52, 3) := by decide +kernel
theorem dX6_workProgram_47 : decode cX6_workProgram 47 = .ok (.aload_n 0, 1) := by decide +kernel
theorem dX6_workProgram_48 : decode cX6_workProgram 48 = .ok (.getfield 52, 3) := by decide +kernel
theorem dX6_workProgram_51 : decode cX6_workProgram 51 = .ok (.ireturn, 1) := by decide +kernel
theorem dX6_workProgram_39 : decode cX6_workProgram 39 = .ok (.iconst 2, 1) := by decide +kernel
theorem dX6_workProgram_40 : decode cX6_workProgram 40 = .ok (.goto 4, 3) := by decide +kernel
theorem dX6_workProgram_18 : decode cX6_workProgram 18 = .ok (.aload_n 0, 1) := by decide +kernel
theorem dX6_workProgram_19 : decode cX6_workProgram 19 = .ok (.iconst 0, 1) := by decide +kernel
theorem dX6_workProgram_20 : decode cX6_workProgram 20 = .ok (.putfield 52, 3) := by decide +kernel
theorem dX6_workProgram_23 : decode cX6_workProgram 23 = .ok (.aload_n 0, 1) := by decide +kernel
theorem dX6_workProgram_24 : decode cX6_workProgram 24 = .ok (.iload_n 3, 1) := by decide +kernel
theorem dX6_workProgram_25 : decode cX6_workProgram 25 = .ok (.iconst 1, 1) := by decide +kernel
theorem dX6_workProgram_26 : decode cX6_workProgram 26 = .ok (.invokevirtual 66, 3) := by decide +kernel
theorem dX6_workProgram_29 : decode cX6_workProgram 29 = .ok (.goto 18, 3) := by decide +kernel
def cPutAt (fu : Nat) : Prop := ∀ (l : Launch) (G : cG) (S : cS) (sn : Nat) (N : Nat) (dp : Nat) (x : Int32) (hC : CL S) (hn : S.1 202 = nI sn) (hcap : sn ≤ 200) (hT : TJ S N) (hdp : dp + fu = 201) (Hs : Heap), Met l yX6_putValue (wC yX6_putValue cX6_putValue 6 none) (cRm S (fu + 8) (30 * fu + 200)) (cPc G S Hs [.ref (ga G 5), .int x, .int (nI dp)]) (cQv G S Hs (fun u => AW [] [202] S u ∧ (∃ sm, u.1 202 = nI sm ∧ sm ≤ 200))) (CC - PT S) (12 * (CC - PT S)) (cA G S Hs.size)
