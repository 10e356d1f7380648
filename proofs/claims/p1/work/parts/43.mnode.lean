theorem dX8_node_43 : decode cX8_node 43 = .ok (.iload_n 1, 1) := by decide +kernel
set_option maxRecDepth 20000 in
theorem ggX8_node_X8_partsOf : GoodIn wsX8_node wsX8_partsOf := goodIn_r _ [17] (by decide +kernel) (by decide +kernel)
set_option maxRecDepth 20000 in
theorem gX8_node_X8_partsOf : GoodIn wsX8_node (va_wsS RX8 151 yX8_partsOf wsX8_partsOf) := goodIn_app (goodIn_of _ (by decide +kernel)) ggX8_node_X8_partsOf
theorem dX8_node_44 : decode cX8_node 44 = .ok (.invokestatic 151, 3) := by decide +kernel
theorem dX8_node_47 : decode cX8_node 47 = .ok (.istore 6, 2) := by decide +kernel
theorem dX8_node_49 : decode cX8_node 49 = .ok (.iload 6, 2) := by decide +kernel
theorem dX8_node_51 : decode cX8_node 51 = .ok (.ifCond .le 11, 3) := by decide +kernel
theorem dX8_node_62 : decode cX8_node 62 = .ok (.iload 6, 2) := by decide +kernel
theorem dX8_node_64 : decode cX8_node 64 = .ok (.iconst 1, 1) := by decide +kernel
theorem dX8_node_65 : decode cX8_node 65 = .ok (.if_icmp .le 18, 3) := by decide +kernel
theorem dX8_node_83 : decode cX8_node 83 = .ok (.iload 6, 2) := by decide +kernel
theorem dX8_node_85 : decode cX8_node 85 = .ok (.iconst 2, 1) := by decide +kernel
theorem dX8_node_86 : decode cX8_node 86 = .ok (.if_icmp .le 27, 3) := by decide +kernel
theorem dX8_node_113 : decode cX8_node 113 = .ok (.aload_n 0, 1) := by decide +kernel
theorem dX8_node_114 : decode cX8_node 114 = .ok (.getfield 137, 3) := by decide +kernel
theorem dX8_node_117 : decode cX8_node 117 = .ok (.bipush 120, 2) := by decide +kernel
theorem dX8_node_119 : decode cX8_node 119 = .ok (.if_icmp .ne 6, 3) := by decide +kernel
theorem dX8_node_125 : decode cX8_node 125 = .ok (.aload_n 0, 1) := by decide +kernel
theorem dX8_node_126 : decode cX8_node 126 = .ok (.getfield 7, 3) := by decide +kernel
theorem dX8_node_129 : decode cX8_node 129 = .ok (.aload_n 0, 1) := by decide +kernel
theorem dX8_node_130 : decode cX8_node 130 = .ok (.getfield 137, 3) := by decide +kernel
theorem dX8_node_133 : decode cX8_node 133 = .ok (.iload_n 1, 1) := by decide +kernel
theorem dX8_node_134 : decode cX8_node 134 = .ok (.iastore, 1) := by decide +kernel
theorem dX8_node_135 : decode cX8_node 135 = .ok (.aload_n 0, 1) := by decide +kernel
theorem dX8_node_136 : decode cX8_node 136 = .ok (.getfield 13, 3) := by decide +kernel
theorem dX8_node_139 : decode cX8_node 139 = .ok (.aload_n 0, 1) := by decide +kernel
theorem dX8_node_140 : decode cX8_node 140 = .ok (.getfield 137, 3) := by decide +kernel
theorem dX8_node_143 : decode cX8_node 143 = .ok (.iload_n 1, 1) := by decide +kernel
theorem dX8_node_165 : decode cX8_node 165 = .ok (.iastore, 1) := by decide +kernel
theorem dX8_node_166 : decode cX8_node 166 = .ok (.aload_n 0, 1) := by decide +kernel
theorem dX8_node_167 : decode cX8_node 167 = .ok (.getfield 16, 3) := by decide +kernel
theorem dX8_node_170 : decode cX8_node 170 = .ok (.aload_n 0, 1) := by decide +kernel
theorem dX8_node_171 : decode cX8_node 171 = .ok (.getfield 137, 3) := by decide +kernel
theorem dX8_node_174 : decode cX8_node 174 = .ok (.iload 6, 2) := by decide +kernel
theorem dX8_node_176 : decode cX8_node 176 = .ok (.iastore, 1) := by decide +kernel
theorem dX8_node_177 : decode cX8_node 177 = .ok (.aload_n 0, 1) := by decide +kernel
theorem dX8_node_178 : decode cX8_node 178 = .ok (.getfield 25, 3) := by decide +kernel
theorem dX8_node_181 : decode cX8_node 181 = .ok (.aload_n 0, 1) := by decide +kernel
theorem dX8_node_182 : decode cX8_node 182 = .ok (.getfield 137, 3) := by decide +kernel
theorem dX8_node_185 : decode cX8_node 185 = .ok (.bipush (-9), 2) := by decide +kernel
theorem dX8_node_187 : decode cX8_node 187 = .ok (.iastore, 1) := by decide +kernel
theorem dX8_node_188 : decode cX8_node 188 = .ok (.iconst 0, 1) := by decide +kernel
theorem dX8_node_189 : decode cX8_node 189 = .ok (.istore 7, 2) := by decide +kernel
theorem dX8_node_191 : decode cX8_node 191 = .ok (.iload 7, 2) := by decide +kernel
theorem dX8_node_193 : decode cX8_node 193 = .ok (.bipush 6, 2) := by decide +kernel
theorem dX8_node_195 : decode cX8_node 195 = .ok (.if_icmp .ge 75, 3) := by decide +kernel
theorem dX8_node_198 : decode cX8_node 198 = .ok (.aload_n 0, 1) := by decide +kernel
theorem dX8_node_199 : decode cX8_node 199 = .ok (.getfield 19, 3) := by decide +kernel
theorem dX8_node_202 : decode cX8_node 202 = .ok (.bipush 6, 2) := by decide +kernel
theorem dX8_node_204 : decode cX8_node 204 = .ok (.aload_n 0, 1) := by decide +kernel
theorem dX8_node_205 : decode cX8_node 205 = .ok (.getfield 137, 3) := by decide +kernel
theorem dX8_node_208 : decode cX8_node 208 = .ok (.imul, 1) := by decide +kernel
theorem dX8_node_209 : decode cX8_node 209 = .ok (.iload 7, 2) := by decide +kernel
theorem dX8_node_211 : decode cX8_node 211 = .ok (.iadd, 1) := by decide +kernel
theorem dX8_node_212 : decode cX8_node 212 = .ok (.iload 7, 2) := by decide +kernel
theorem dX8_node_214 : decode cX8_node 214 = .ok (.iload 6, 2) := by decide +kernel
theorem dX8_node_216 : decode cX8_node 216 = .ok (.if_icmp .ge 28, 3) := by decide +kernel
theorem dX8_node_244 : decode cX8_node 244 = .ok (.bipush (-9), 2) := by decide +kernel
theorem dX8_node_246 : decode cX8_node 246 = .ok (.iastore, 1) := by decide +kernel
theorem dX8_node_247 : decode cX8_node 247 = .ok (.aload_n 0, 1) := by decide +kernel
theorem dX8_node_248 : decode cX8_node 248 = .ok (.getfield 22, 3) := by decide +kernel
theorem dX8_node_251 : decode cX8_node 251 = .ok (.bipush 6, 2) := by decide +kernel
theorem dX8_node_253 : decode cX8_node 253 = .ok (.aload_n 0, 1) := by decide +kernel
theorem dX8_node_254 : decode cX8_node 254 = .ok (.getfield 137, 3) := by decide +kernel
theorem dX8_node_257 : decode cX8_node 257 = .ok (.imul, 1) := by decide +kernel
theorem dX8_node_258 : decode cX8_node 258 = .ok (.iload 7, 2) := by decide +kernel
theorem dX8_node_260 : decode cX8_node 260 = .ok (.iadd, 1) := by decide +kernel
theorem dX8_node_261 : decode cX8_node 261 = .ok (.bipush (-9), 2) := by decide +kernel
theorem dX8_node_263 : decode cX8_node 263 = .ok (.iastore, 1) := by decide +kernel
theorem dX8_node_264 : decode cX8_node 264 = .ok (.iinc 7 1, 3) := by decide +kernel
theorem dX8_node_267 : decode cX8_node 267 = .ok (.goto (-76), 3) := by decide +kernel
theorem dX8_node_270 : decode cX8_node 270 = .ok (.iconst 0, 1) := by decide +kernel
theorem dX8_node_271 : decode cX8_node 271 = .ok (.istore 7, 2) := by decide +kernel
theorem dX8_node_273 : decode cX8_node 273 = .ok (.iload 7, 2) := by decide +kernel
theorem dX8_node_275 : decode cX8_node 275 = .ok (.iload 6, 2) := by decide +kernel
theorem dX8_node_277 : decode cX8_node 277 = .ok (.if_icmp .ge 33, 3) := by decide +kernel
theorem dX8_node_310 : decode cX8_node 310 = .ok (.aload_n 0, 1) := by decide +kernel
theorem dX8_node_311 : decode cX8_node 311 = .ok (.dup, 1) := by decide +kernel
theorem dX8_node_312 : decode cX8_node 312 = .ok (.getfield 137, 3) := by decide +kernel
theorem dX8_node_315 : decode cX8_node 315 = .ok (.iconst 1, 1) := by decide +kernel
theorem dX8_node_316 : decode cX8_node 316 = .ok (.iadd, 1) := by decide +kernel
theorem dX8_node_317 : decode cX8_node 317 = .ok (.putfield 137, 3) := by decide +kernel
theorem dX8_node_320 : decode cX8_node 320 = .ok (.aload_n 0, 1) := by decide +kernel
theorem dX8_node_321 : decode cX8_node 321 = .ok (.getfield 137, 3) := by decide +kernel
theorem dX8_node_324 : decode cX8_node 324 = .ok (.iconst 1, 1) := by decide +kernel
theorem dX8_node_325 : decode cX8_node 325 = .ok (.isub, 1) := by decide +kernel
theorem dX8_node_326 : decode cX8_node 326 = .ok (.ireturn, 1) := by decide +kernel
theorem dX8_node_144 : decode cX8_node 144 = .ok (.ifCond .eq 15, 3) := by decide +kernel
theorem dX8_node_159 : decode cX8_node 159 = .ok (.iload_n 2, 1) := by decide +kernel
theorem dX8_node_160 : decode cX8_node 160 = .ok (.goto 5, 3) := by decide +kernel
theorem dX8_node_147 : decode cX8_node 147 = .ok (.iload_n 1, 1) := by decide +kernel
theorem dX8_node_148 : decode cX8_node 148 = .ok (.iconst 1, 1) := by decide +kernel
theorem dX8_node_149 : decode cX8_node 149 = .ok (.if_icmp .eq 10, 3) := by decide +kernel
theorem dX8_node_152 : decode cX8_node 152 = .ok (.iload_n 1, 1) := by decide +kernel
set_option maxRecDepth 20000 in
theorem ggX8_node_X8_hasName : GoodIn wsX8_node wsX8_hasName := goodIn_r _ [14] (by decide +kernel) (by decide +kernel)
set_option maxRecDepth 20000 in
theorem gX8_node_X8_hasName : GoodIn wsX8_node (va_wsS RX8 148 yX8_hasName wsX8_hasName) := goodIn_app (goodIn_of _ (by decide +kernel)) ggX8_node_X8_hasName
theorem dX8_node_153 : decode cX8_node 153 = .ok (.invokestatic 148, 3) := by decide +kernel
theorem dX8_node_156 : decode cX8_node 156 = .ok (.ifCond .eq 7, 3) := by decide +kernel
theorem dX8_node_163 : decode cX8_node 163 = .ok (.bipush (-9), 2) := by decide +kernel
theorem dX8_node_54 : decode cX8_node 54 = .ok (.aload_n 0, 1) := by decide +kernel
theorem dX8_node_55 : decode cX8_node 55 = .ok (.iload_n 3, 1) := by decide +kernel
set_option maxRecDepth 20000 in
theorem ggX8_node_X8_isFree : GoodIn wsX8_node wsX8_isFree := goodIn_r _ [21, 5, 22, 23, 24, 10, 25, 1, 8, 9, 11, 26, 27, 28, 29, 30, 31, 32, 33, 34, 35, 36, 37, 38, 39, 40, 41, 42, 43, 44, 45, 46, 47, 48, 49, 50, 51, 52, 53, 54, 55, 56, 57, 58, 59, 60, 61, 62, 63, 64, 65, 66, 67, 68, 69, 70, 71, 72, 73, 74, 75, 76, 77, 78, 79, 80, 81, 82, 83, 84, 85, 86, 87, 88, 89, 90, 91, 92, 93] (by decide +kernel) (by decide +kernel)
set_option maxRecDepth 20000 in
theorem gX8_node_X8_isFree : GoodIn wsX8_node (wsV RX8 155 RX8 yX8_isFree wsX8_isFree) := goodIn_app (goodIn_of _ (by decide +kernel)) ggX8_node_X8_isFree
theorem dX8_node_56 : decode cX8_node 56 = .ok (.invokevirtual 155, 3) := by decide +kernel
theorem dX8_node_59 : decode cX8_node 59 = .ok (.ifCond .eq 52, 3) := by decide +kernel
theorem dX8_node_111 : decode cX8_node 111 = .ok (.iconst (-1), 1) := by decide +kernel
theorem dX8_node_112 : decode cX8_node 112 = .ok (.ireturn, 1) := by decide +kernel
theorem dX8_node_0 : decode cX8_node 0 = .ok (.iload_n 1, 1) := by decide +kernel
theorem dX8_node_1 : decode cX8_node 1 = .ok (.iconst 0, 1) := by decide +kernel
theorem dX8_node_2 : decode cX8_node 2 = .ok (.bipush 11, 2) := by decide +kernel
set_option maxRecDepth 20000 in
theorem ggX8_node_X8_in : GoodIn wsX8_node wsX8_in := goodIn_r _ [11] (by decide +kernel) (by decide +kernel)
set_option maxRecDepth 20000 in
theorem gX8_node_X8_in : GoodIn wsX8_node (va_wsS RX8 140 yX8_in wsX8_in) := goodIn_app (goodIn_of _ (by decide +kernel)) ggX8_node_X8_in
theorem dX8_node_4 : decode cX8_node 4 = .ok (.invokestatic 140, 3) := by decide +kernel
theorem dX8_node_7 : decode cX8_node 7 = .ok (.ifCond .eq 34, 3) := by decide +kernel
theorem dX8_node_41 : decode cX8_node 41 = .ok (.iconst (-1), 1) := by decide +kernel
theorem dX8_node_42 : decode cX8_node 42 = .ok (.ireturn, 1) := by decide +kernel
theorem dX8_node_10 : decode cX8_node 10 = .ok (.iload_n 1, 1) := by decide +kernel
theorem dX8_node_11 : decode cX8_node 11 = .ok (.iconst 1, 1) := by decide +kernel
theorem dX8_node_12 : decode cX8_node 12 = .ok (.if_icmp .ne 12, 3) := by decide +kernel
theorem dX8_node_24 : decode cX8_node 24 = .ok (.iload_n 1, 1) := by decide +kernel
theorem dX8_node_25 : decode cX8_node 25 = .ok (.invokestatic 148, 3) := by decide +kernel
theorem dX8_node_28 : decode cX8_node 28 = .ok (.ifCond .eq 15, 3) := by decide +kernel
theorem dX8_node_31 : decode cX8_node 31 = .ok (.iload_n 2, 1) := by decide +kernel
theorem dX8_node_32 : decode cX8_node 32 = .ok (.iconst 0, 1) := by decide +kernel
theorem dX8_node_33 : decode cX8_node 33 = .ok (.bipush 25, 2) := by decide +kernel
theorem dX8_node_35 : decode cX8_node 35 = .ok (.invokestatic 140, 3) := by decide +kernel
theorem dX8_node_38 : decode cX8_node 38 = .ok (.ifCond .ne 5, 3) := by decide +kernel
theorem dX8_node_15 : decode cX8_node 15 = .ok (.iload_n 2, 1) := by decide +kernel
theorem dX8_node_16 : decode cX8_node 16 = .ok (.iconst 0, 1) := by decide +kernel
theorem dX8_node_17 : decode cX8_node 17 = .ok (.iconst 1, 1) := by decide +kernel
theorem dX8_node_18 : decode cX8_node 18 = .ok (.invokestatic 140, 3) := by decide +kernel
theorem dX8_node_21 : decode cX8_node 21 = .ok (.ifCond .eq 20, 3) := by decide +kernel
set_option maxHeartbeats 4000000 in
set_option maxRecDepth 100000 in
/-- node, of a fresh model -/
theorem c_m_node (l : Launch) (dC : Nat → ClassId) (dI : Nat → Nat → Nat) (cI : ClassId) (h0 : Nat) (ad : Nat → Nat) (kd : Int32) (v : Int32) (na : Int32) (nb : Int32) (nc : Int32) (sz : Nat) : Met l yX8_node wsX8_node ({ frames := 3, cells := 0, slots := 0, locals := 64 }) (va_Pc [.ref h0, .int kd, .int v, .int na, .int nb, .int nc] (fun U => U.heap.size = sz ∧ va_P (dC, dI) vwCl [(h0, .inr (8, [.int 0, .ref (ad 1), .ref (ad 2), .ref (ad 3), .ref (ad 4), .ref (ad 5), .ref (ad 6), .int 0, .ref (ad 8), .ref (ad 9), .ref (ad 10), .ref (ad 11), .ref (ad 12), .ref (ad 13), .int 0, .ref (ad 15), .int 0, .ref (ad 17), .ref (ad 18), .ref (ad 19), .ref (ad 20), .ref (ad 21), .int 0, .int 0, .int ((-9)), .int 0, .int 0, .int 0, .int 0, .ref (ad 29), .ref (ad 30), .int 0, .int 0, .int 0, .int 0, .int 0, .ref (ad 36), .ref (ad 37), .ref (ad 38), .int 0, .ref (ad 40), .ref (ad 41), .int 0, .ref (ad 43), .ref (ad 44), .int 0, .ref (ad 46), .int 0, .int 0, .ref (ad 49), .ref (ad 50), .int 0, .ref (ad 52), .ref (ad 53), .ref (ad 54), .ref (ad 55), .int 0, .ref (ad 57), .ref (ad 58), .ref (ad 59), .ref (ad 60), .int ((-9)), .int 0, .int 0, .int 0, .int ((-9)), .int 0, .int 0])), (ad 1, .inl (cI, 120, .inl (fun _ => 0))), (ad 2, .inl (cI, 120, .inl (fun _ => 0))), (ad 3, .inl (cI, 120, .inl (fun _ => 0))), (ad 4, .inl (cI, 720, .inl (fun _ => 0))), (ad 5, .inl (cI, 720, .inl (fun _ => 0))), (ad 6, .inl (cI, 120, .inl (fun _ => 0)))] U.heap ∧ va_K (dC, dI) vwCl [(cI, .int)] U ∧ va_D (fun _ => True) [(h0, .inr (8, [.int 0, .ref (ad 1), .ref (ad 2), .ref (ad 3), .ref (ad 4), .ref (ad 5), .ref (ad 6), .int 0, .ref (ad 8), .ref (ad 9), .ref (ad 10), .ref (ad 11), .ref (ad 12), .ref (ad 13), .int 0, .ref (ad 15), .int 0, .ref (ad 17), .ref (ad 18), .ref (ad 19), .ref (ad 20), .ref (ad 21), .int 0, .int 0, .int ((-9)), .int 0, .int 0, .int 0, .int 0, .ref (ad 29), .ref (ad 30), .int 0, .int 0, .int 0, .int 0, .int 0, .ref (ad 36), .ref (ad 37), .ref (ad 38), .int 0, .ref (ad 40), .ref (ad 41), .int 0, .ref (ad 43), .ref (ad 44), .int 0, .ref (ad 46), .int 0, .int 0, .ref (ad 49), .ref (ad 50), .int 0, .ref (ad 52), .ref (ad 53), .ref (ad 54), .ref (ad 55), .int 0, .ref (ad 57), .ref (ad 58), .ref (ad 59), .ref (ad 60), .int ((-9)), .int 0, .int 0, .int 0, .int ((-9)), .int 0, .int 0])), (ad 1, .inl (cI, 120, .inl (fun _ => 0))), (ad 2, .inl (cI, 120, .inl (fun _ => 0))), (ad 3, .inl (cI, 120, .inl (fun _ => 0))), (ad 4, .inl (cI, 720, .inl (fun _ => 0))), (ad 5, .inl (cI, 720, .inl (fun _ => 0))), (ad 6, .inl (cI, 120, .inl (fun _ => 0)))])) (va_Qi (fun (r : Int32) (_ : Unit) => r = m_node kd v) (fun (_ : Unit) (t : State) => va_P (dC, dI) vwCl [] t.heap ∧ va_K (dC, dI) vwCl [(cI, .int)] t ∧ va_D (va_A [(h0, .inr (8, [.int 0, .ref (ad 1), .ref (ad 2), .ref (ad 3), .ref (ad 4), .ref (ad 5), .ref (ad 6), .int 0, .ref (ad 8), .ref (ad 9), .ref (ad 10), .ref (ad 11), .ref (ad 12), .ref (ad 13), .int 0, .ref (ad 15), .int 0, .ref (ad 17), .ref (ad 18), .ref (ad 19), .ref (ad 20), .ref (ad 21), .int 0, .int 0, .int ((-9)), .int 0, .int 0, .int 0, .int 0, .ref (ad 29), .ref (ad 30), .int 0, .int 0, .int 0, .int 0, .int 0, .ref (ad 36), .ref (ad 37), .ref (ad 38), .int 0, .ref (ad 40), .ref (ad 41), .int 0, .ref (ad 43), .ref (ad 44), .int 0, .ref (ad 46), .int 0, .int 0, .ref (ad 49), .ref (ad 50), .int 0, .ref (ad 52), .ref (ad 53), .ref (ad 54), .ref (ad 55), .int 0, .ref (ad 57), .ref (ad 58), .ref (ad 59), .ref (ad 60), .int ((-9)), .int 0, .int 0, .int 0, .int ((-9)), .int 0, .int 0])), (ad 1, .inl (cI, 120, .inl (fun _ => 0))), (ad 2, .inl (cI, 120, .inl (fun _ => 0))), (ad 3, .inl (cI, 120, .inl (fun _ => 0))), (ad 4, .inl (cI, 720, .inl (fun _ => 0))), (ad 5, .inl (cI, 720, .inl (fun _ => 0))), (ad 6, .inl (cI, 120, .inl (fun _ => 0)))] sz) []) (va_A [(h0, .inr (8, [.int 0, .ref (ad 1), .ref (ad 2), .ref (ad 3), .ref (ad 4), .ref (ad 5), .ref (ad 6), .int 0, .ref (ad 8), .ref (ad 9), .ref (ad 10), .ref (ad 11), .ref (ad 12), .ref (ad 13), .int 0, .ref (ad 15), .int 0, .ref (ad 17), .ref (ad 18), .ref (ad 19), .ref (ad 20), .ref (ad 21), .int 0, .int 0, .int ((-9)), .int 0, .int 0, .int 0, .int 0, .ref (ad 29), .ref (ad 30), .int 0, .int 0, .int 0, .int 0, .int 0, .ref (ad 36), .ref (ad 37), .ref (ad 38), .int 0, .ref (ad 40), .ref (ad 41), .int 0, .ref (ad 43), .ref (ad 44), .int 0, .ref (ad 46), .int 0, .int 0, .ref (ad 49), .ref (ad 50), .int 0, .ref (ad 52), .ref (ad 53), .ref (ad 54), .ref (ad 55), .int 0, .ref (ad 57), .ref (ad 58), .ref (ad 59), .ref (ad 60), .int ((-9)), .int 0, .int 0, .int 0, .int ((-9)), .int 0, .int 0])), (ad 1, .inl (cI, 120, .inl (fun _ => 0))), (ad 2, .inl (cI, 120, .inl (fun _ => 0))), (ad 3, .inl (cI, 120, .inl (fun _ => 0))), (ad 4, .inl (cI, 720, .inl (fun _ => 0))), (ad 5, .inl (cI, 720, .inl (fun _ => 0))), (ad 6, .inl (cI, 120, .inl (fun _ => 0)))] sz)) 0 0 (va_A [(h0, .inr (8, [.int 0, .ref (ad 1), .ref (ad 2), .ref (ad 3), .ref (ad 4), .ref (ad 5), .ref (ad 6), .int 0, .ref (ad 8), .ref (ad 9), .ref (ad 10), .ref (ad 11), .ref (ad 12), .ref (ad 13), .int 0, .ref (ad 15), .int 0, .ref (ad 17), .ref (ad 18), .ref (ad 19), .ref (ad 20), .ref (ad 21), .int 0, .int 0, .int ((-9)), .int 0, .int 0, .int 0, .int 0, .ref (ad 29), .ref (ad 30), .int 0, .int 0, .int 0, .int 0, .int 0, .ref (ad 36), .ref (ad 37), .ref (ad 38), .int 0, .ref (ad 40), .ref (ad 41), .int 0, .ref (ad 43), .ref (ad 44), .int 0, .ref (ad 46), .int 0, .int 0, .ref (ad 49), .ref (ad 50), .int 0, .ref (ad 52), .ref (ad 53), .ref (ad 54), .ref (ad 55), .int 0, .ref (ad 57), .ref (ad 58), .ref (ad 59), .ref (ad 60), .int ((-9)), .int 0, .int 0, .int 0, .int ((-9)), .int 0, .int 0])), (ad 1, .inl (cI, 120, .inl (fun _ => 0))), (ad 2, .inl (cI, 120, .inl (fun _ => 0))), (ad 3, .inl (cI, 120, .inl (fun _ => 0))), (ad 4, .inl (cI, 720, .inl (fun _ => 0))), (ad 5, .inl (cI, 720, .inl (fun _ => 0))), (ad 6, .inl (cI, 120, .inl (fun _ => 0)))] sz) := by
  refine Met.ofW (cc := cX8_node) (maxL := 8) (ret := (some .int)) (by decide) rfl ?_
  intro p e s m args below meth c s₁ B hml hv
  obtain ⟨rfl, hsz, hP, hK, hD0⟩ := hv
  have hx := B.exec
  have hb := B.bytes
  have hr := B.returns
  have hts := atoms_spec (ws := wsX8_node) B.pre
  have hown : s.vm.findClass RX8 = some m.cls := findClass_of_methodNamed B.named
  have hlocks := B.notSynchronized
  subst hsz
  have hD := hD0.self (sz := s.heap.size)
  generalize hAe : va_A [(h0, .inr (8, [.int 0, .ref (ad 1), .ref (ad 2), .ref (ad 3), .ref (ad 4), .ref (ad 5), .ref (ad 6), .int 0, .ref (ad 8), .ref (ad 9), .ref (ad 10), .ref (ad 11), .ref (ad 12), .ref (ad 13), .int 0, .ref (ad 15), .int 0, .ref (ad 17), .ref (ad 18), .ref (ad 19), .ref (ad 20), .ref (ad 21), .int 0, .int 0, .int ((-9)), .int 0, .int 0, .int 0, .int 0, .ref (ad 29), .ref (ad 30), .int 0, .int 0, .int 0, .int 0, .int 0, .ref (ad 36), .ref (ad 37), .ref (ad 38), .int 0, .ref (ad 40), .ref (ad 41), .int 0, .ref (ad 43), .ref (ad 44), .int 0, .ref (ad 46), .int 0, .int 0, .ref (ad 49), .ref (ad 50), .int 0, .ref (ad 52), .ref (ad 53), .ref (ad 54), .ref (ad 55), .int 0, .ref (ad 57), .ref (ad 58), .ref (ad 59), .ref (ad 60), .int ((-9)), .int 0, .int 0, .int 0, .int ((-9)), .int 0, .int 0])), (ad 1, .inl (cI, 120, .inl (fun _ => 0))), (ad 2, .inl (cI, 120, .inl (fun _ => 0))), (ad 3, .inl (cI, 120, .inl (fun _ => 0))), (ad 4, .inl (cI, 720, .inl (fun _ => 0))), (ad 5, .inl (cI, 720, .inl (fun _ => 0))), (ad 6, .inl (cI, 120, .inl (fun _ => 0)))] s.heap.size = A at hD ⊢
  have hA : ∀ q : Nat, s.heap.size ≤ q → A q := fun q h => by rw [← hAe]; exact Or.inr h
  have hS : va_S A s.heap s.heap [] := va_S.rf
  have hP : va_P (dC, dI) vwCl [(h0, .inr (8, [.int 0, .ref (ad 1), .ref (ad 2), .ref (ad 3), .ref (ad 4), .ref (ad 5), .ref (ad 6), .int 0, .ref (ad 8), .ref (ad 9), .ref (ad 10), .ref (ad 11), .ref (ad 12), .ref (ad 13), .int 0, .ref (ad 15), .int 0, .ref (ad 17), .ref (ad 18), .ref (ad 19), .ref (ad 20), .ref (ad 21), .int 0, .int 0, .int ((-9)), .int 0, .int 0, .int 0, .int 0, .ref (ad 29), .ref (ad 30), .int 0, .int 0, .int 0, .int 0, .int 0, .ref (ad 36), .ref (ad 37), .ref (ad 38), .int 0, .ref (ad 40), .ref (ad 41), .int 0, .ref (ad 43), .ref (ad 44), .int 0, .ref (ad 46), .int 0, .int 0, .ref (ad 49), .ref (ad 50), .int 0, .ref (ad 52), .ref (ad 53), .ref (ad 54), .ref (ad 55), .int 0, .ref (ad 57), .ref (ad 58), .ref (ad 59), .ref (ad 60), .int ((-9)), .int 0, .int 0, .int 0, .int ((-9)), .int 0, .int 0])), (ad 1, .inl (cI, 120, .inl (fun _ => 0))), (ad 2, .inl (cI, 120, .inl (fun _ => 0))), (ad 3, .inl (cI, 120, .inl (fun _ => 0))), (ad 4, .inl (cI, 720, .inl (fun _ => 0))), (ad 5, .inl (cI, 720, .inl (fun _ => 0))), (ad 6, .inl (cI, 120, .inl (fun _ => 0)))] s.heap := hP
  have hl := lv_entry ([.ref h0, .int kd, .int v, .int na, .int nb, .int nc]) (n := 8) (Nat.le_of_ble_eq_true rfl)
  rw [lg_entry_eq]
  generalize (lg_sl ([.ref h0, .int kd, .int v, .int na, .int nb, .int nc]) ++ List.replicate (8 - (lg_sl ([.ref h0, .int kd, .int v, .int na, .int nb, .int nc])).length) Slot.unset).toArray = ls at hl ⊢
  have hl : lv_has ls 8 [(0, .ref h0), (1, .int kd), (2, .int v), (3, .int na), (4, .int nb), (5, .int nc)] := hl
  obtain ⟨H, hHe⟩ : ∃ H : Heap, H = s.heap := ⟨_, rfl⟩
  rw [← hHe] at hP ⊢
  have hS : va_S A s.heap H [] := by rw [hHe]; exact va_S.rf
  refine w_cut (fun H locs k sl g => ∃ (ls : Array Slot), m_node kd v = m_end kd ∧ k = 0 ∧ sl = 0 ∧ va_P (dC, dI) vwCl [(h0, .inr (8, [.int 0, .ref (ad 1), .ref (ad 2), .ref (ad 3), .ref (ad 4), .ref (ad 5), .ref (ad 6), .int 0, .ref (ad 8), .ref (ad 9), .ref (ad 10), .ref (ad 11), .ref (ad 12), .ref (ad 13), .int 0, .ref (ad 15), .int 0, .ref (ad 17), .ref (ad 18), .ref (ad 19), .ref (ad 20), .ref (ad 21), .int 0, .int 0, .int ((-9)), .int 0, .int 0, .int 0, .int 0, .ref (ad 29), .ref (ad 30), .int 0, .int 0, .int 0, .int 0, .int 0, .ref (ad 36), .ref (ad 37), .ref (ad 38), .int 0, .ref (ad 40), .ref (ad 41), .int 0, .ref (ad 43), .ref (ad 44), .int 0, .ref (ad 46), .int 0, .int 0, .ref (ad 49), .ref (ad 50), .int 0, .ref (ad 52), .ref (ad 53), .ref (ad 54), .ref (ad 55), .int 0, .ref (ad 57), .ref (ad 58), .ref (ad 59), .ref (ad 60), .int ((-9)), .int 0, .int 0, .int 0, .int ((-9)), .int 0, .int 0])), (ad 1, .inl (cI, 120, .inl (fun _ => 0))), (ad 2, .inl (cI, 120, .inl (fun _ => 0))), (ad 3, .inl (cI, 120, .inl (fun _ => 0))), (ad 4, .inl (cI, 720, .inl (fun _ => 0))), (ad 5, .inl (cI, 720, .inl (fun _ => 0))), (ad 6, .inl (cI, 120, .inl (fun _ => 0)))] H ∧ va_D A [(h0, .inr (8, [.int 0, .ref (ad 1), .ref (ad 2), .ref (ad 3), .ref (ad 4), .ref (ad 5), .ref (ad 6), .int 0, .ref (ad 8), .ref (ad 9), .ref (ad 10), .ref (ad 11), .ref (ad 12), .ref (ad 13), .int 0, .ref (ad 15), .int 0, .ref (ad 17), .ref (ad 18), .ref (ad 19), .ref (ad 20), .ref (ad 21), .int 0, .int 0, .int ((-9)), .int 0, .int 0, .int 0, .int 0, .ref (ad 29), .ref (ad 30), .int 0, .int 0, .int 0, .int 0, .int 0, .ref (ad 36), .ref (ad 37), .ref (ad 38), .int 0, .ref (ad 40), .ref (ad 41), .int 0, .ref (ad 43), .ref (ad 44), .int 0, .ref (ad 46), .int 0, .int 0, .ref (ad 49), .ref (ad 50), .int 0, .ref (ad 52), .ref (ad 53), .ref (ad 54), .ref (ad 55), .int 0, .ref (ad 57), .ref (ad 58), .ref (ad 59), .ref (ad 60), .int ((-9)), .int 0, .int 0, .int 0, .int ((-9)), .int 0, .int 0])), (ad 1, .inl (cI, 120, .inl (fun _ => 0))), (ad 2, .inl (cI, 120, .inl (fun _ => 0))), (ad 3, .inl (cI, 120, .inl (fun _ => 0))), (ad 4, .inl (cI, 720, .inl (fun _ => 0))), (ad 5, .inl (cI, 720, .inl (fun _ => 0))), (ad 6, .inl (cI, 120, .inl (fun _ => 0)))] ∧ va_S A s.heap H locs ∧ lv_has ls 8 [(0, .ref h0), (1, .int kd), (2, .int v), (3, .int na), (4, .int nb), (5, .int nc)] ∧ g = F0 m 43 ls []) ?_ ?_
  · intro H locs k sl g hI
    obtain ⟨ls, cut_1_0, rfl, rfl, hP, hD, hS, hl, rfl⟩ := hI
    refine lv_iload_n hx hb dX8_node_43 rfl (lv_at hl 1 rfl) ?_
    have hPc := hP.sub (ws' := []) [] rfl
    have hDc := hD.sub (ws' := []) [] (by decide) rfl
    have hFc := va_free (wc := []) hD hS hA [] rfl
    refine va_calli (va_runS (As := [.int kd]) (rest := []) ⟨hx, hb, hml, hown, hts⟩ (c_m_partsOf l dC dI cI kd H.size) (va_cwS 1 hts gX8_node_X8_partsOf rfl rfl rfl (by decide +kernel) ⟨Nat.le_of_ble_eq_true rfl, Nat.le_of_ble_eq_true rfl⟩) ⟨fun a U g mk q => by obtain ⟨q0, q1, qP, qK, qD⟩ := q; exact ⟨q0, q1, qP, va_K.moved (u := U) (U := U.calling g mk a) (Vm.Alike.refl U.vm) qK, qD⟩, fun U hU hW => ⟨rfl, by rw [hU], by rw [hU]; exact hPc, va_K.moved hW.alike hK, hDc.weaken (fun _ _ _ _ => trivial)⟩⟩ rfl rfl hl.1 rfl (lv_room (Nat.le_of_ble_eq_true rfl)) dX8_node_44 ⟨Nat.le_of_ble_eq_true rfl, Nat.le_of_ble_eq_true rfl⟩) hS (fun q _ h => hFc q h) hFc (fun r_2 u t H1 locs ht hvm hw hB hz1 hk1 hS => ?_)
    obtain ⟨hP1, hK1, hD1⟩ := hB
    rw [ht] at hP1
    obtain ⟨hP, hD⟩ := va_join (wr := [(h0, .inr (8, [.int 0, .ref (ad 1), .ref (ad 2), .ref (ad 3), .ref (ad 4), .ref (ad 5), .ref (ad 6), .int 0, .ref (ad 8), .ref (ad 9), .ref (ad 10), .ref (ad 11), .ref (ad 12), .ref (ad 13), .int 0, .ref (ad 15), .int 0, .ref (ad 17), .ref (ad 18), .ref (ad 19), .ref (ad 20), .ref (ad 21), .int 0, .int 0, .int ((-9)), .int 0, .int 0, .int 0, .int 0, .ref (ad 29), .ref (ad 30), .int 0, .int 0, .int 0, .int 0, .int 0, .ref (ad 36), .ref (ad 37), .ref (ad 38), .int 0, .ref (ad 40), .ref (ad 41), .int 0, .ref (ad 43), .ref (ad 44), .int 0, .ref (ad 46), .int 0, .int 0, .ref (ad 49), .ref (ad 50), .int 0, .ref (ad 52), .ref (ad 53), .ref (ad 54), .ref (ad 55), .int 0, .ref (ad 57), .ref (ad 58), .ref (ad 59), .ref (ad 60), .int ((-9)), .int 0, .int 0, .int 0, .int ((-9)), .int 0, .int 0])), (ad 1, .inl (cI, 120, .inl (fun _ => 0))), (ad 2, .inl (cI, 120, .inl (fun _ => 0))), (ad 3, .inl (cI, 120, .inl (fun _ => 0))), (ad 4, .inl (cI, 720, .inl (fun _ => 0))), (ad 5, .inl (cI, 720, .inl (fun _ => 0))), (ad 6, .inl (cI, 120, .inl (fun _ => 0)))]) (w1 := []) hP hD [] [0, 1, 2, 3, 4, 5, 6] rfl rfl (by decide) (by decide) hk1 hFc hP1 hD1
    generalize H1 = H at hP hS ⊢
    obtain rfl : r_2 = m_parts kd := hw
    have hP : va_P (dC, dI) vwCl [(h0, .inr (8, [.int 0, .ref (ad 1), .ref (ad 2), .ref (ad 3), .ref (ad 4), .ref (ad 5), .ref (ad 6), .int 0, .ref (ad 8), .ref (ad 9), .ref (ad 10), .ref (ad 11), .ref (ad 12), .ref (ad 13), .int 0, .ref (ad 15), .int 0, .ref (ad 17), .ref (ad 18), .ref (ad 19), .ref (ad 20), .ref (ad 21), .int 0, .int 0, .int ((-9)), .int 0, .int 0, .int 0, .int 0, .ref (ad 29), .ref (ad 30), .int 0, .int 0, .int 0, .int 0, .int 0, .ref (ad 36), .ref (ad 37), .ref (ad 38), .int 0, .ref (ad 40), .ref (ad 41), .int 0, .ref (ad 43), .ref (ad 44), .int 0, .ref (ad 46), .int 0, .int 0, .ref (ad 49), .ref (ad 50), .int 0, .ref (ad 52), .ref (ad 53), .ref (ad 54), .ref (ad 55), .int 0, .ref (ad 57), .ref (ad 58), .ref (ad 59), .ref (ad 60), .int ((-9)), .int 0, .int 0, .int 0, .int ((-9)), .int 0, .int 0])), (ad 1, .inl (cI, 120, .inl (fun _ => 0))), (ad 2, .inl (cI, 120, .inl (fun _ => 0))), (ad 3, .inl (cI, 120, .inl (fun _ => 0))), (ad 4, .inl (cI, 720, .inl (fun _ => 0))), (ad 5, .inl (cI, 720, .inl (fun _ => 0))), (ad 6, .inl (cI, 120, .inl (fun _ => 0)))] H := hP
    have hD : va_D A [(h0, .inr (8, [.int 0, .ref (ad 1), .ref (ad 2), .ref (ad 3), .ref (ad 4), .ref (ad 5), .ref (ad 6), .int 0, .ref (ad 8), .ref (ad 9), .ref (ad 10), .ref (ad 11), .ref (ad 12), .ref (ad 13), .int 0, .ref (ad 15), .int 0, .ref (ad 17), .ref (ad 18), .ref (ad 19), .ref (ad 20), .ref (ad 21), .int 0, .int 0, .int ((-9)), .int 0, .int 0, .int 0, .int 0, .ref (ad 29), .ref (ad 30), .int 0, .int 0, .int 0, .int 0, .int 0, .ref (ad 36), .ref (ad 37), .ref (ad 38), .int 0, .ref (ad 40), .ref (ad 41), .int 0, .ref (ad 43), .ref (ad 44), .int 0, .ref (ad 46), .int 0, .int 0, .ref (ad 49), .ref (ad 50), .int 0, .ref (ad 52), .ref (ad 53), .ref (ad 54), .ref (ad 55), .int 0, .ref (ad 57), .ref (ad 58), .ref (ad 59), .ref (ad 60), .int ((-9)), .int 0, .int 0, .int 0, .int ((-9)), .int 0, .int 0])), (ad 1, .inl (cI, 120, .inl (fun _ => 0))), (ad 2, .inl (cI, 120, .inl (fun _ => 0))), (ad 3, .inl (cI, 120, .inl (fun _ => 0))), (ad 4, .inl (cI, 720, .inl (fun _ => 0))), (ad 5, .inl (cI, 720, .inl (fun _ => 0))), (ad 6, .inl (cI, 120, .inl (fun _ => 0)))] := hD
    refine W.widen (k := 0) (n := 0) (Nat.le_of_ble_eq_true rfl) (Nat.le_of_ble_eq_true rfl) ?_
    refine lv_istore (lv' := [(6, .int (m_parts kd)), (0, .ref h0), (1, .int kd), (2, .int v), (3, .int na), (4, .int nb), (5, .int nc)]) hx hb dX8_node_47 hl (by decide) rfl (fun ls hl => ?_)
    refine lv_iload hx hb dX8_node_49 (lv_at hl 0 rfl) ?_
    refine lv_if_le (tgt := 62) hx hb dX8_node_51 (by decide) (fun c_3 => ?_) (fun c_3 => ?_)
    · skip
      refine lv_iload hx hb dX8_node_62 (lv_at hl 0 rfl) ?_
      refine lv_iconst (v := 1) hx hb dX8_node_64 (by decide) ?_
      refine lv_icmp_le (tgt := 83) hx hb dX8_node_65 (by decide) (fun c_4 => ?_) (fun c_4 => absurd (i_le_mono c_3 (by decide)) c_4)
      refine lv_iload hx hb dX8_node_83 (lv_at hl 0 rfl) ?_
      refine lv_iconst (v := 2) hx hb dX8_node_85 (by decide) ?_
      refine lv_icmp_le (tgt := 113) hx hb dX8_node_86 (by decide) (fun c_5 => ?_) (fun c_5 => absurd (i_le_mono c_3 (by decide)) c_5)
      refine lv_aload_n hx hb dX8_node_113 rfl (lv_at hl 1 rfl) ?_
      refine va_get (D := (dC, dI)) (ci := 8) (v := .int 0) (C := RX8) (T := TX8) (N := 68) hx hb hts (fun w h => List.mem_cons_of_mem _ (List.mem_append_right _ h)) hown hK hP 0 rfl rfl 0 (by decide) (hts (.fieldLink RX8 137 "PolarTypesModel" "nodes" "I") (List.mem_of_getElem? (i := 1) (by decide +kernel))) (fun _ h9 => h9) rfl dX8_node_114 ?_
      refine lv_bipush (v := 120) hx hb dX8_node_117 (by decide) ?_
      refine lv_icmp_ne (tgt := 125) hx hb dX8_node_119 (by decide) (fun c_6 => ?_) (fun c_6 => absurd c_6 (by decide))
      refine lv_aload_n hx hb dX8_node_125 rfl (lv_at hl 1 rfl) ?_
      refine va_get (D := (dC, dI)) (ci := 8) (v := .ref (ad 1)) (C := RX8) (T := TX8) (N := 68) hx hb hts (fun w h => List.mem_cons_of_mem _ (List.mem_append_right _ h)) hown hK hP 0 rfl rfl 1 (by decide) (hts (.fieldLink RX8 7 "PolarTypesModel" "kindOf" "[I") (List.mem_of_getElem? (i := 2) (by decide +kernel))) (fun _ h9 => h9) rfl dX8_node_126 ?_
      refine lv_aload_n hx hb dX8_node_129 rfl (lv_at hl 1 rfl) ?_
      refine va_get (D := (dC, dI)) (ci := 8) (v := .int 0) (C := RX8) (T := TX8) (N := 68) hx hb hts (fun w h => List.mem_cons_of_mem _ (List.mem_append_right _ h)) hown hK hP 0 rfl rfl 0 (by decide) (hts (.fieldLink RX8 137 "PolarTypesModel" "nodes" "I") (List.mem_of_getElem? (i := 1) (by decide +kernel))) (fun _ h9 => h9) rfl dX8_node_130 ?_
      refine lv_iload_n hx hb dX8_node_133 rfl (lv_at hl 2 rfl) ?_
      refine va_iast hx hb hK hP hD hS 1 0 rfl rfl (vin _ _ (by decide)) dX8_node_134 (fun H locs hP hD hS => ?_)
      obtain ⟨g_7, eg_7⟩ : ∃ y : Nat → Int32, y = upd (fun _ => 0) (Int32.toNatClampNeg 0) kd := ⟨_, rfl⟩
      rw [← eg_7] at hP hD
      have hP : va_P (dC, dI) vwCl [(h0, .inr (8, [.int 0, .ref (ad 1), .ref (ad 2), .ref (ad 3), .ref (ad 4), .ref (ad 5), .ref (ad 6), .int 0, .ref (ad 8), .ref (ad 9), .ref (ad 10), .ref (ad 11), .ref (ad 12), .ref (ad 13), .int 0, .ref (ad 15), .int 0, .ref (ad 17), .ref (ad 18), .ref (ad 19), .ref (ad 20), .ref (ad 21), .int 0, .int 0, .int ((-9)), .int 0, .int 0, .int 0, .int 0, .ref (ad 29), .ref (ad 30), .int 0, .int 0, .int 0, .int 0, .int 0, .ref (ad 36), .ref (ad 37), .ref (ad 38), .int 0, .ref (ad 40), .ref (ad 41), .int 0, .ref (ad 43), .ref (ad 44), .int 0, .ref (ad 46), .int 0, .int 0, .ref (ad 49), .ref (ad 50), .int 0, .ref (ad 52), .ref (ad 53), .ref (ad 54), .ref (ad 55), .int 0, .ref (ad 57), .ref (ad 58), .ref (ad 59), .ref (ad 60), .int ((-9)), .int 0, .int 0, .int 0, .int ((-9)), .int 0, .int 0])), (ad 1, .inl (cI, 120, .inl g_7)), (ad 2, .inl (cI, 120, .inl (fun _ => 0))), (ad 3, .inl (cI, 120, .inl (fun _ => 0))), (ad 4, .inl (cI, 720, .inl (fun _ => 0))), (ad 5, .inl (cI, 720, .inl (fun _ => 0))), (ad 6, .inl (cI, 120, .inl (fun _ => 0)))] H := hP
      have hD : va_D A [(h0, .inr (8, [.int 0, .ref (ad 1), .ref (ad 2), .ref (ad 3), .ref (ad 4), .ref (ad 5), .ref (ad 6), .int 0, .ref (ad 8), .ref (ad 9), .ref (ad 10), .ref (ad 11), .ref (ad 12), .ref (ad 13), .int 0, .ref (ad 15), .int 0, .ref (ad 17), .ref (ad 18), .ref (ad 19), .ref (ad 20), .ref (ad 21), .int 0, .int 0, .int ((-9)), .int 0, .int 0, .int 0, .int 0, .ref (ad 29), .ref (ad 30), .int 0, .int 0, .int 0, .int 0, .int 0, .ref (ad 36), .ref (ad 37), .ref (ad 38), .int 0, .ref (ad 40), .ref (ad 41), .int 0, .ref (ad 43), .ref (ad 44), .int 0, .ref (ad 46), .int 0, .int 0, .ref (ad 49), .ref (ad 50), .int 0, .ref (ad 52), .ref (ad 53), .ref (ad 54), .ref (ad 55), .int 0, .ref (ad 57), .ref (ad 58), .ref (ad 59), .ref (ad 60), .int ((-9)), .int 0, .int 0, .int 0, .int ((-9)), .int 0, .int 0])), (ad 1, .inl (cI, 120, .inl g_7)), (ad 2, .inl (cI, 120, .inl (fun _ => 0))), (ad 3, .inl (cI, 120, .inl (fun _ => 0))), (ad 4, .inl (cI, 720, .inl (fun _ => 0))), (ad 5, .inl (cI, 720, .inl (fun _ => 0))), (ad 6, .inl (cI, 120, .inl (fun _ => 0)))] := hD
      refine lv_aload_n hx hb dX8_node_135 rfl (lv_at hl 1 rfl) ?_
      refine va_get (D := (dC, dI)) (ci := 8) (v := .ref (ad 2)) (C := RX8) (T := TX8) (N := 68) hx hb hts (fun w h => List.mem_cons_of_mem _ (List.mem_append_right _ h)) hown hK hP 0 rfl rfl 2 (by decide) (hts (.fieldLink RX8 13 "PolarTypesModel" "valueOf" "[I") (List.mem_of_getElem? (i := 3) (by decide +kernel))) (fun _ h9 => h9) rfl dX8_node_136 ?_
      refine lv_aload_n hx hb dX8_node_139 rfl (lv_at hl 1 rfl) ?_
      refine va_get (D := (dC, dI)) (ci := 8) (v := .int 0) (C := RX8) (T := TX8) (N := 68) hx hb hts (fun w h => List.mem_cons_of_mem _ (List.mem_append_right _ h)) hown hK hP 0 rfl rfl 0 (by decide) (hts (.fieldLink RX8 137 "PolarTypesModel" "nodes" "I") (List.mem_of_getElem? (i := 1) (by decide +kernel))) (fun _ h9 => h9) rfl dX8_node_140 ?_
      refine lv_iload_n hx hb dX8_node_143 rfl (lv_at hl 2 rfl) ?_
      refine w_cut (fun H locs k sl g => ∃ (ls : Array Slot) (x : Int32), k = 0 ∧ sl = 0 ∧ va_P (dC, dI) vwCl [(h0, .inr (8, [.int 0, .ref (ad 1), .ref (ad 2), .ref (ad 3), .ref (ad 4), .ref (ad 5), .ref (ad 6), .int 0, .ref (ad 8), .ref (ad 9), .ref (ad 10), .ref (ad 11), .ref (ad 12), .ref (ad 13), .int 0, .ref (ad 15), .int 0, .ref (ad 17), .ref (ad 18), .ref (ad 19), .ref (ad 20), .ref (ad 21), .int 0, .int 0, .int ((-9)), .int 0, .int 0, .int 0, .int 0, .ref (ad 29), .ref (ad 30), .int 0, .int 0, .int 0, .int 0, .int 0, .ref (ad 36), .ref (ad 37), .ref (ad 38), .int 0, .ref (ad 40), .ref (ad 41), .int 0, .ref (ad 43), .ref (ad 44), .int 0, .ref (ad 46), .int 0, .int 0, .ref (ad 49), .ref (ad 50), .int 0, .ref (ad 52), .ref (ad 53), .ref (ad 54), .ref (ad 55), .int 0, .ref (ad 57), .ref (ad 58), .ref (ad 59), .ref (ad 60), .int ((-9)), .int 0, .int 0, .int 0, .int ((-9)), .int 0, .int 0])), (ad 1, .inl (cI, 120, .inl g_7)), (ad 2, .inl (cI, 120, .inl (fun _ => 0))), (ad 3, .inl (cI, 120, .inl (fun _ => 0))), (ad 4, .inl (cI, 720, .inl (fun _ => 0))), (ad 5, .inl (cI, 720, .inl (fun _ => 0))), (ad 6, .inl (cI, 120, .inl (fun _ => 0)))] H ∧ va_D A [(h0, .inr (8, [.int 0, .ref (ad 1), .ref (ad 2), .ref (ad 3), .ref (ad 4), .ref (ad 5), .ref (ad 6), .int 0, .ref (ad 8), .ref (ad 9), .ref (ad 10), .ref (ad 11), .ref (ad 12), .ref (ad 13), .int 0, .ref (ad 15), .int 0, .ref (ad 17), .ref (ad 18), .ref (ad 19), .ref (ad 20), .ref (ad 21), .int 0, .int 0, .int ((-9)), .int 0, .int 0, .int 0, .int 0, .ref (ad 29), .ref (ad 30), .int 0, .int 0, .int 0, .int 0, .int 0, .ref (ad 36), .ref (ad 37), .ref (ad 38), .int 0, .ref (ad 40), .ref (ad 41), .int 0, .ref (ad 43), .ref (ad 44), .int 0, .ref (ad 46), .int 0, .int 0, .ref (ad 49), .ref (ad 50), .int 0, .ref (ad 52), .ref (ad 53), .ref (ad 54), .ref (ad 55), .int 0, .ref (ad 57), .ref (ad 58), .ref (ad 59), .ref (ad 60), .int ((-9)), .int 0, .int 0, .int 0, .int ((-9)), .int 0, .int 0])), (ad 1, .inl (cI, 120, .inl g_7)), (ad 2, .inl (cI, 120, .inl (fun _ => 0))), (ad 3, .inl (cI, 120, .inl (fun _ => 0))), (ad 4, .inl (cI, 720, .inl (fun _ => 0))), (ad 5, .inl (cI, 720, .inl (fun _ => 0))), (ad 6, .inl (cI, 120, .inl (fun _ => 0)))] ∧ va_S A s.heap H locs ∧ lv_has ls 8 [(6, .int (m_parts kd)), (0, .ref h0), (1, .int kd), (2, .int v), (3, .int na), (4, .int nb), (5, .int nc)] ∧ g = F0 m 165 ls [.int x, .int 0, .ref (ad 2)]) ?_ ?_
      · intro H locs k sl g hI
        obtain ⟨ls, x, rfl, rfl, hP, hD, hS, hl, rfl⟩ := hI
        refine va_iast hx hb hK hP hD hS 2 0 rfl rfl (vin _ _ (by decide)) dX8_node_165 (fun H locs hP hD hS => ?_)
        obtain ⟨g_9, eg_9⟩ : ∃ y : Nat → Int32, y = upd (fun _ => 0) (Int32.toNatClampNeg 0) x := ⟨_, rfl⟩
        rw [← eg_9] at hP hD
        have hP : va_P (dC, dI) vwCl [(h0, .inr (8, [.int 0, .ref (ad 1), .ref (ad 2), .ref (ad 3), .ref (ad 4), .ref (ad 5), .ref (ad 6), .int 0, .ref (ad 8), .ref (ad 9), .ref (ad 10), .ref (ad 11), .ref (ad 12), .ref (ad 13), .int 0, .ref (ad 15), .int 0, .ref (ad 17), .ref (ad 18), .ref (ad 19), .ref (ad 20), .ref (ad 21), .int 0, .int 0, .int ((-9)), .int 0, .int 0, .int 0, .int 0, .ref (ad 29), .ref (ad 30), .int 0, .int 0, .int 0, .int 0, .int 0, .ref (ad 36), .ref (ad 37), .ref (ad 38), .int 0, .ref (ad 40), .ref (ad 41), .int 0, .ref (ad 43), .ref (ad 44), .int 0, .ref (ad 46), .int 0, .int 0, .ref (ad 49), .ref (ad 50), .int 0, .ref (ad 52), .ref (ad 53), .ref (ad 54), .ref (ad 55), .int 0, .ref (ad 57), .ref (ad 58), .ref (ad 59), .ref (ad 60), .int ((-9)), .int 0, .int 0, .int 0, .int ((-9)), .int 0, .int 0])), (ad 1, .inl (cI, 120, .inl g_7)), (ad 2, .inl (cI, 120, .inl g_9)), (ad 3, .inl (cI, 120, .inl (fun _ => 0))), (ad 4, .inl (cI, 720, .inl (fun _ => 0))), (ad 5, .inl (cI, 720, .inl (fun _ => 0))), (ad 6, .inl (cI, 120, .inl (fun _ => 0)))] H := hP
        have hD : va_D A [(h0, .inr (8, [.int 0, .ref (ad 1), .ref (ad 2), .ref (ad 3), .ref (ad 4), .ref (ad 5), .ref (ad 6), .int 0, .ref (ad 8), .ref (ad 9), .ref (ad 10), .ref (ad 11), .ref (ad 12), .ref (ad 13), .int 0, .ref (ad 15), .int 0, .ref (ad 17), .ref (ad 18), .ref (ad 19), .ref (ad 20), .ref (ad 21), .int 0, .int 0, .int ((-9)), .int 0, .int 0, .int 0, .int 0, .ref (ad 29), .ref (ad 30), .int 0, .int 0, .int 0, .int 0, .int 0, .ref (ad 36), .ref (ad 37), .ref (ad 38), .int 0, .ref (ad 40), .ref (ad 41), .int 0, .ref (ad 43), .ref (ad 44), .int 0, .ref (ad 46), .int 0, .int 0, .ref (ad 49), .ref (ad 50), .int 0, .ref (ad 52), .ref (ad 53), .ref (ad 54), .ref (ad 55), .int 0, .ref (ad 57), .ref (ad 58), .ref (ad 59), .ref (ad 60), .int ((-9)), .int 0, .int 0, .int 0, .int ((-9)), .int 0, .int 0])), (ad 1, .inl (cI, 120, .inl g_7)), (ad 2, .inl (cI, 120, .inl g_9)), (ad 3, .inl (cI, 120, .inl (fun _ => 0))), (ad 4, .inl (cI, 720, .inl (fun _ => 0))), (ad 5, .inl (cI, 720, .inl (fun _ => 0))), (ad 6, .inl (cI, 120, .inl (fun _ => 0)))] := hD
        refine lv_aload_n hx hb dX8_node_166 rfl (lv_at hl 1 rfl) ?_
        refine va_get (D := (dC, dI)) (ci := 8) (v := .ref (ad 3)) (C := RX8) (T := TX8) (N := 68) hx hb hts (fun w h => List.mem_cons_of_mem _ (List.mem_append_right _ h)) hown hK hP 0 rfl rfl 3 (by decide) (hts (.fieldLink RX8 16 "PolarTypesModel" "partMany" "[I") (List.mem_of_getElem? (i := 4) (by decide +kernel))) (fun _ h9 => h9) rfl dX8_node_167 ?_
        refine lv_aload_n hx hb dX8_node_170 rfl (lv_at hl 1 rfl) ?_
        refine va_get (D := (dC, dI)) (ci := 8) (v := .int 0) (C := RX8) (T := TX8) (N := 68) hx hb hts (fun w h => List.mem_cons_of_mem _ (List.mem_append_right _ h)) hown hK hP 0 rfl rfl 0 (by decide) (hts (.fieldLink RX8 137 "PolarTypesModel" "nodes" "I") (List.mem_of_getElem? (i := 1) (by decide +kernel))) (fun _ h9 => h9) rfl dX8_node_171 ?_
        refine lv_iload hx hb dX8_node_174 (lv_at hl 0 rfl) ?_
        refine va_iast hx hb hK hP hD hS 3 0 rfl rfl (vin _ _ (by decide)) dX8_node_176 (fun H locs hP hD hS => ?_)
        obtain ⟨g_10, eg_10⟩ : ∃ y : Nat → Int32, y = upd (fun _ => 0) (Int32.toNatClampNeg 0) (m_parts kd) := ⟨_, rfl⟩
        rw [← eg_10] at hP hD
        have hP : va_P (dC, dI) vwCl [(h0, .inr (8, [.int 0, .ref (ad 1), .ref (ad 2), .ref (ad 3), .ref (ad 4), .ref (ad 5), .ref (ad 6), .int 0, .ref (ad 8), .ref (ad 9), .ref (ad 10), .ref (ad 11), .ref (ad 12), .ref (ad 13), .int 0, .ref (ad 15), .int 0, .ref (ad 17), .ref (ad 18), .ref (ad 19), .ref (ad 20), .ref (ad 21), .int 0, .int 0, .int ((-9)), .int 0, .int 0, .int 0, .int 0, .ref (ad 29), .ref (ad 30), .int 0, .int 0, .int 0, .int 0, .int 0, .ref (ad 36), .ref (ad 37), .ref (ad 38), .int 0, .ref (ad 40), .ref (ad 41), .int 0, .ref (ad 43), .ref (ad 44), .int 0, .ref (ad 46), .int 0, .int 0, .ref (ad 49), .ref (ad 50), .int 0, .ref (ad 52), .ref (ad 53), .ref (ad 54), .ref (ad 55), .int 0, .ref (ad 57), .ref (ad 58), .ref (ad 59), .ref (ad 60), .int ((-9)), .int 0, .int 0, .int 0, .int ((-9)), .int 0, .int 0])), (ad 1, .inl (cI, 120, .inl g_7)), (ad 2, .inl (cI, 120, .inl g_9)), (ad 3, .inl (cI, 120, .inl g_10)), (ad 4, .inl (cI, 720, .inl (fun _ => 0))), (ad 5, .inl (cI, 720, .inl (fun _ => 0))), (ad 6, .inl (cI, 120, .inl (fun _ => 0)))] H := hP
        have hD : va_D A [(h0, .inr (8, [.int 0, .ref (ad 1), .ref (ad 2), .ref (ad 3), .ref (ad 4), .ref (ad 5), .ref (ad 6), .int 0, .ref (ad 8), .ref (ad 9), .ref (ad 10), .ref (ad 11), .ref (ad 12), .ref (ad 13), .int 0, .ref (ad 15), .int 0, .ref (ad 17), .ref (ad 18), .ref (ad 19), .ref (ad 20), .ref (ad 21), .int 0, .int 0, .int ((-9)), .int 0, .int 0, .int 0, .int 0, .ref (ad 29), .ref (ad 30), .int 0, .int 0, .int 0, .int 0, .int 0, .ref (ad 36), .ref (ad 37), .ref (ad 38), .int 0, .ref (ad 40), .ref (ad 41), .int 0, .ref (ad 43), .ref (ad 44), .int 0, .ref (ad 46), .int 0, .int 0, .ref (ad 49), .ref (ad 50), .int 0, .ref (ad 52), .ref (ad 53), .ref (ad 54), .ref (ad 55), .int 0, .ref (ad 57), .ref (ad 58), .ref (ad 59), .ref (ad 60), .int ((-9)), .int 0, .int 0, .int 0, .int ((-9)), .int 0, .int 0])), (ad 1, .inl (cI, 120, .inl g_7)), (ad 2, .inl (cI, 120, .inl g_9)), (ad 3, .inl (cI, 120, .inl g_10)), (ad 4, .inl (cI, 720, .inl (fun _ => 0))), (ad 5, .inl (cI, 720, .inl (fun _ => 0))), (ad 6, .inl (cI, 120, .inl (fun _ => 0)))] := hD
        refine lv_aload_n hx hb dX8_node_177 rfl (lv_at hl 1 rfl) ?_
        refine va_get (D := (dC, dI)) (ci := 8) (v := .ref (ad 6)) (C := RX8) (T := TX8) (N := 68) hx hb hts (fun w h => List.mem_cons_of_mem _ (List.mem_append_right _ h)) hown hK hP 0 rfl rfl 6 (by decide) (hts (.fieldLink RX8 25 "PolarTypesModel" "up" "[I") (List.mem_of_getElem? (i := 5) (by decide +kernel))) (fun _ h9 => h9) rfl dX8_node_178 ?_
        refine lv_aload_n hx hb dX8_node_181 rfl (lv_at hl 1 rfl) ?_
        refine va_get (D := (dC, dI)) (ci := 8) (v := .int 0) (C := RX8) (T := TX8) (N := 68) hx hb hts (fun w h => List.mem_cons_of_mem _ (List.mem_append_right _ h)) hown hK hP 0 rfl rfl 0 (by decide) (hts (.fieldLink RX8 137 "PolarTypesModel" "nodes" "I") (List.mem_of_getElem? (i := 1) (by decide +kernel))) (fun _ h9 => h9) rfl dX8_node_182 ?_
        refine lv_bipush (v := (-9)) hx hb dX8_node_185 (by decide) ?_
        refine va_iast hx hb hK hP hD hS 6 0 rfl rfl (vin _ _ (by decide)) dX8_node_187 (fun H locs hP hD hS => ?_)
        obtain ⟨g_11, eg_11⟩ : ∃ y : Nat → Int32, y = upd (fun _ => 0) (Int32.toNatClampNeg 0) ((-9)) := ⟨_, rfl⟩
        rw [← eg_11] at hP hD
        have hP : va_P (dC, dI) vwCl [(h0, .inr (8, [.int 0, .ref (ad 1), .ref (ad 2), .ref (ad 3), .ref (ad 4), .ref (ad 5), .ref (ad 6), .int 0, .ref (ad 8), .ref (ad 9), .ref (ad 10), .ref (ad 11), .ref (ad 12), .ref (ad 13), .int 0, .ref (ad 15), .int 0, .ref (ad 17), .ref (ad 18), .ref (ad 19), .ref (ad 20), .ref (ad 21), .int 0, .int 0, .int ((-9)), .int 0, .int 0, .int 0, .int 0, .ref (ad 29), .ref (ad 30), .int 0, .int 0, .int 0, .int 0, .int 0, .ref (ad 36), .ref (ad 37), .ref (ad 38), .int 0, .ref (ad 40), .ref (ad 41), .int 0, .ref (ad 43), .ref (ad 44), .int 0, .ref (ad 46), .int 0, .int 0, .ref (ad 49), .ref (ad 50), .int 0, .ref (ad 52), .ref (ad 53), .ref (ad 54), .ref (ad 55), .int 0, .ref (ad 57), .ref (ad 58), .ref (ad 59), .ref (ad 60), .int ((-9)), .int 0, .int 0, .int 0, .int ((-9)), .int 0, .int 0])), (ad 1, .inl (cI, 120, .inl g_7)), (ad 2, .inl (cI, 120, .inl g_9)), (ad 3, .inl (cI, 120, .inl g_10)), (ad 4, .inl (cI, 720, .inl (fun _ => 0))), (ad 5, .inl (cI, 720, .inl (fun _ => 0))), (ad 6, .inl (cI, 120, .inl g_11))] H := hP
        have hD : va_D A [(h0, .inr (8, [.int 0, .ref (ad 1), .ref (ad 2), .ref (ad 3), .ref (ad 4), .ref (ad 5), .ref (ad 6), .int 0, .ref (ad 8), .ref (ad 9), .ref (ad 10), .ref (ad 11), .ref (ad 12), .ref (ad 13), .int 0, .ref (ad 15), .int 0, .ref (ad 17), .ref (ad 18), .ref (ad 19), .ref (ad 20), .ref (ad 21), .int 0, .int 0, .int ((-9)), .int 0, .int 0, .int 0, .int 0, .ref (ad 29), .ref (ad 30), .int 0, .int 0, .int 0, .int 0, .int 0, .ref (ad 36), .ref (ad 37), .ref (ad 38), .int 0, .ref (ad 40), .ref (ad 41), .int 0, .ref (ad 43), .ref (ad 44), .int 0, .ref (ad 46), .int 0, .int 0, .ref (ad 49), .ref (ad 50), .int 0, .ref (ad 52), .ref (ad 53), .ref (ad 54), .ref (ad 55), .int 0, .ref (ad 57), .ref (ad 58), .ref (ad 59), .ref (ad 60), .int ((-9)), .int 0, .int 0, .int 0, .int ((-9)), .int 0, .int 0])), (ad 1, .inl (cI, 120, .inl g_7)), (ad 2, .inl (cI, 120, .inl g_9)), (ad 3, .inl (cI, 120, .inl g_10)), (ad 4, .inl (cI, 720, .inl (fun _ => 0))), (ad 5, .inl (cI, 720, .inl (fun _ => 0))), (ad 6, .inl (cI, 120, .inl g_11))] := hD
        refine lv_iconst (v := 0) hx hb dX8_node_188 (by decide) ?_
        refine lv_istore (lv' := [(7, .int 0), (6, .int (m_parts kd)), (0, .ref h0), (1, .int kd), (2, .int v), (3, .int na), (4, .int nb), (5, .int nc)]) hx hb dX8_node_189 hl (by decide) rfl (fun ls hl => ?_)
        refine lv_iload hx hb dX8_node_191 (lv_at hl 0 rfl) ?_
        refine lv_bipush (v := 6) hx hb dX8_node_193 (by decide) ?_
        refine lv_icmp_ge (tgt := 270) hx hb dX8_node_195 (by decide) (fun c_12 => absurd c_12 (by decide)) (fun c_12 => ?_)
        refine lv_aload_n hx hb dX8_node_198 rfl (lv_at hl 2 rfl) ?_
        refine va_get (D := (dC, dI)) (ci := 8) (v := .ref (ad 4)) (C := RX8) (T := TX8) (N := 68) hx hb hts (fun w h => List.mem_cons_of_mem _ (List.mem_append_right _ h)) hown hK hP 0 rfl rfl 4 (by decide) (hts (.fieldLink RX8 19 "PolarTypesModel" "parts" "[I") (List.mem_of_getElem? (i := 6) (by decide +kernel))) (fun _ h9 => h9) rfl dX8_node_199 ?_
        refine lv_bipush (v := 6) hx hb dX8_node_202 (by decide) ?_
        refine lv_aload_n hx hb dX8_node_204 rfl (lv_at hl 2 rfl) ?_
        refine va_get (D := (dC, dI)) (ci := 8) (v := .int 0) (C := RX8) (T := TX8) (N := 68) hx hb hts (fun w h => List.mem_cons_of_mem _ (List.mem_append_right _ h)) hown hK hP 0 rfl rfl 0 (by decide) (hts (.fieldLink RX8 137 "PolarTypesModel" "nodes" "I") (List.mem_of_getElem? (i := 1) (by decide +kernel))) (fun _ h9 => h9) rfl dX8_node_205 ?_
        refine lv_imul hx hb dX8_node_208 ?_
        refine lv_topi (fun f_13 ef_13 => ?_)
        have ef_13c : f_13 = 0 := ef_13.trans (by decide)
        subst ef_13c
        refine lv_iload hx hb dX8_node_209 (lv_at hl 0 rfl) ?_
        refine lv_iadd hx hb dX8_node_211 ?_
        refine lv_topi (fun f_14 ef_14 => ?_)
        have ef_14c : f_14 = 0 := ef_14.trans (by decide)
        subst ef_14c
        refine lv_iload hx hb dX8_node_212 (lv_at hl 0 rfl) ?_
        refine lv_iload hx hb dX8_node_214 (lv_at hl 1 rfl) ?_
        refine lv_icmp_ge (tgt := 244) hx hb dX8_node_216 (by decide) (fun c_15 => ?_) (fun c_15 => absurd (i_le_mono c_3 (by decide)) c_15)
        refine lv_bipush (v := (-9)) hx hb dX8_node_244 (by decide) ?_
        refine va_iast hx hb hK hP hD hS 4 0 rfl rfl (vin _ _ (by decide)) dX8_node_246 (fun H locs hP hD hS => ?_)
        obtain ⟨g_16, eg_16⟩ : ∃ y : Nat → Int32, y = upd (fun _ => 0) (Int32.toNatClampNeg 0) ((-9)) := ⟨_, rfl⟩
        rw [← eg_16] at hP hD
        have hP : va_P (dC, dI) vwCl [(h0, .inr (8, [.int 0, .ref (ad 1), .ref (ad 2), .ref (ad 3), .ref (ad 4), .ref (ad 5), .ref (ad 6), .int 0, .ref (ad 8), .ref (ad 9), .ref (ad 10), .ref (ad 11), .ref (ad 12), .ref (ad 13), .int 0, .ref (ad 15), .int 0, .ref (ad 17), .ref (ad 18), .ref (ad 19), .ref (ad 20), .ref (ad 21), .int 0, .int 0, .int ((-9)), .int 0, .int 0, .int 0, .int 0, .ref (ad 29), .ref (ad 30), .int 0, .int 0, .int 0, .int 0, .int 0, .ref (ad 36), .ref (ad 37), .ref (ad 38), .int 0, .ref (ad 40), .ref (ad 41), .int 0, .ref (ad 43), .ref (ad 44), .int 0, .ref (ad 46), .int 0, .int 0, .ref (ad 49), .ref (ad 50), .int 0, .ref (ad 52), .ref (ad 53), .ref (ad 54), .ref (ad 55), .int 0, .ref (ad 57), .ref (ad 58), .ref (ad 59), .ref (ad 60), .int ((-9)), .int 0, .int 0, .int 0, .int ((-9)), .int 0, .int 0])), (ad 1, .inl (cI, 120, .inl g_7)), (ad 2, .inl (cI, 120, .inl g_9)), (ad 3, .inl (cI, 120, .inl g_10)), (ad 4, .inl (cI, 720, .inl g_16)), (ad 5, .inl (cI, 720, .inl (fun _ => 0))), (ad 6, .inl (cI, 120, .inl g_11))] H := hP
        have hD : va_D A [(h0, .inr (8, [.int 0, .ref (ad 1), .ref (ad 2), .ref (ad 3), .ref (ad 4), .ref (ad 5), .ref (ad 6), .int 0, .ref (ad 8), .ref (ad 9), .ref (ad 10), .ref (ad 11), .ref (ad 12), .ref (ad 13), .int 0, .ref (ad 15), .int 0, .ref (ad 17), .ref (ad 18), .ref (ad 19), .ref (ad 20), .ref (ad 21), .int 0, .int 0, .int ((-9)), .int 0, .int 0, .int 0, .int 0, .ref (ad 29), .ref (ad 30), .int 0, .int 0, .int 0, .int 0, .int 0, .ref (ad 36), .ref (ad 37), .ref (ad 38), .int 0, .ref (ad 40), .ref (ad 41), .int 0, .ref (ad 43), .ref (ad 44), .int 0, .ref (ad 46), .int 0, .int 0, .ref (ad 49), .ref (ad 50), .int 0, .ref (ad 52), .ref (ad 53), .ref (ad 54), .ref (ad 55), .int 0, .ref (ad 57), .ref (ad 58), .ref (ad 59), .ref (ad 60), .int ((-9)), .int 0, .int 0, .int 0, .int ((-9)), .int 0, .int 0])), (ad 1, .inl (cI, 120, .inl g_7)), (ad 2, .inl (cI, 120, .inl g_9)), (ad 3, .inl (cI, 120, .inl g_10)), (ad 4, .inl (cI, 720, .inl g_16)), (ad 5, .inl (cI, 720, .inl (fun _ => 0))), (ad 6, .inl (cI, 120, .inl g_11))] := hD
        refine lv_aload_n hx hb dX8_node_247 rfl (lv_at hl 2 rfl) ?_
        refine va_get (D := (dC, dI)) (ci := 8) (v := .ref (ad 5)) (C := RX8) (T := TX8) (N := 68) hx hb hts (fun w h => List.mem_cons_of_mem _ (List.mem_append_right _ h)) hown hK hP 0 rfl rfl 5 (by decide) (hts (.fieldLink RX8 22 "PolarTypesModel" "labels" "[I") (List.mem_of_getElem? (i := 7) (by decide +kernel))) (fun _ h9 => h9) rfl dX8_node_248 ?_
        refine lv_bipush (v := 6) hx hb dX8_node_251 (by decide) ?_
        refine lv_aload_n hx hb dX8_node_253 rfl (lv_at hl 2 rfl) ?_
        refine va_get (D := (dC, dI)) (ci := 8) (v := .int 0) (C := RX8) (T := TX8) (N := 68) hx hb hts (fun w h => List.mem_cons_of_mem _ (List.mem_append_right _ h)) hown hK hP 0 rfl rfl 0 (by decide) (hts (.fieldLink RX8 137 "PolarTypesModel" "nodes" "I") (List.mem_of_getElem? (i := 1) (by decide +kernel))) (fun _ h9 => h9) rfl dX8_node_254 ?_
        refine lv_imul hx hb dX8_node_257 ?_
        refine lv_topi (fun f_17 ef_17 => ?_)
        have ef_17c : f_17 = 0 := ef_17.trans (by decide)
        subst ef_17c
        refine lv_iload hx hb dX8_node_258 (lv_at hl 0 rfl) ?_
        refine lv_iadd hx hb dX8_node_260 ?_
        refine lv_topi (fun f_18 ef_18 => ?_)
        have ef_18c : f_18 = 0 := ef_18.trans (by decide)
        subst ef_18c
        refine lv_bipush (v := (-9)) hx hb dX8_node_261 (by decide) ?_
        refine va_iast hx hb hK hP hD hS 5 0 rfl rfl (vin _ _ (by decide)) dX8_node_263 (fun H locs hP hD hS => ?_)
        obtain ⟨g_19, eg_19⟩ : ∃ y : Nat → Int32, y = upd (fun _ => 0) (Int32.toNatClampNeg 0) ((-9)) := ⟨_, rfl⟩
        rw [← eg_19] at hP hD
        have hP : va_P (dC, dI) vwCl [(h0, .inr (8, [.int 0, .ref (ad 1), .ref (ad 2), .ref (ad 3), .ref (ad 4), .ref (ad 5), .ref (ad 6), .int 0, .ref (ad 8), .ref (ad 9), .ref (ad 10), .ref (ad 11), .ref (ad 12), .ref (ad 13), .int 0, .ref (ad 15), .int 0, .ref (ad 17), .ref (ad 18), .ref (ad 19), .ref (ad 20), .ref (ad 21), .int 0, .int 0, .int ((-9)), .int 0, .int 0, .int 0, .int 0, .ref (ad 29), .ref (ad 30), .int 0, .int 0, .int 0, .int 0, .int 0, .ref (ad 36), .ref (ad 37), .ref (ad 38), .int 0, .ref (ad 40), .ref (ad 41), .int 0, .ref (ad 43), .ref (ad 44), .int 0, .ref (ad 46), .int 0, .int 0, .ref (ad 49), .ref (ad 50), .int 0, .ref (ad 52), .ref (ad 53), .ref (ad 54), .ref (ad 55), .int 0, .ref (ad 57), .ref (ad 58), .ref (ad 59), .ref (ad 60), .int ((-9)), .int 0, .int 0, .int 0, .int ((-9)), .int 0, .int 0])), (ad 1, .inl (cI, 120, .inl g_7)), (ad 2, .inl (cI, 120, .inl g_9)), (ad 3, .inl (cI, 120, .inl g_10)), (ad 4, .inl (cI, 720, .inl g_16)), (ad 5, .inl (cI, 720, .inl g_19)), (ad 6, .inl (cI, 120, .inl g_11))] H := hP
        have hD : va_D A [(h0, .inr (8, [.int 0, .ref (ad 1), .ref (ad 2), .ref (ad 3), .ref (ad 4), .ref (ad 5), .ref (ad 6), .int 0, .ref (ad 8), .ref (ad 9), .ref (ad 10), .ref (ad 11), .ref (ad 12), .ref (ad 13), .int 0, .ref (ad 15), .int 0, .ref (ad 17), .ref (ad 18), .ref (ad 19), .ref (ad 20), .ref (ad 21), .int 0, .int 0, .int ((-9)), .int 0, .int 0, .int 0, .int 0, .ref (ad 29), .ref (ad 30), .int 0, .int 0, .int 0, .int 0, .int 0, .ref (ad 36), .ref (ad 37), .ref (ad 38), .int 0, .ref (ad 40), .ref (ad 41), .int 0, .ref (ad 43), .ref (ad 44), .int 0, .ref (ad 46), .int 0, .int 0, .ref (ad 49), .ref (ad 50), .int 0, .ref (ad 52), .ref (ad 53), .ref (ad 54), .ref (ad 55), .int 0, .ref (ad 57), .ref (ad 58), .ref (ad 59), .ref (ad 60), .int ((-9)), .int 0, .int 0, .int 0, .int ((-9)), .int 0, .int 0])), (ad 1, .inl (cI, 120, .inl g_7)), (ad 2, .inl (cI, 120, .inl g_9)), (ad 3, .inl (cI, 120, .inl g_10)), (ad 4, .inl (cI, 720, .inl g_16)), (ad 5, .inl (cI, 720, .inl g_19)), (ad 6, .inl (cI, 120, .inl g_11))] := hD
        refine lv_iinc (v := 1) (lv' := [(7, .int 1), (6, .int (m_parts kd)), (0, .ref h0), (1, .int kd), (2, .int v), (3, .int na), (4, .int nb), (5, .int nc)]) hx hb dX8_node_264 hl (k := 0) rfl (by decide) (by decide) rfl (fun ls hl => ?_)
        refine lv_goto (tgt := 191) hx hb dX8_node_267 (by decide) ?_
        refine lv_iload hx hb dX8_node_191 (lv_at hl 0 rfl) ?_
        refine lv_bipush (v := 6) hx hb dX8_node_193 (by decide) ?_
        refine lv_icmp_ge (tgt := 270) hx hb dX8_node_195 (by decide) (fun c_20 => absurd c_20 (by decide)) (fun c_20 => ?_)
        refine lv_aload_n hx hb dX8_node_198 rfl (lv_at hl 2 rfl) ?_
        refine va_get (D := (dC, dI)) (ci := 8) (v := .ref (ad 4)) (C := RX8) (T := TX8) (N := 68) hx hb hts (fun w h => List.mem_cons_of_mem _ (List.mem_append_right _ h)) hown hK hP 0 rfl rfl 4 (by decide) (hts (.fieldLink RX8 19 "PolarTypesModel" "parts" "[I") (List.mem_of_getElem? (i := 6) (by decide +kernel))) (fun _ h9 => h9) rfl dX8_node_199 ?_
        refine lv_bipush (v := 6) hx hb dX8_node_202 (by decide) ?_
        refine lv_aload_n hx hb dX8_node_204 rfl (lv_at hl 2 rfl) ?_
        refine va_get (D := (dC, dI)) (ci := 8) (v := .int 0) (C := RX8) (T := TX8) (N := 68) hx hb hts (fun w h => List.mem_cons_of_mem _ (List.mem_append_right _ h)) hown hK hP 0 rfl rfl 0 (by decide) (hts (.fieldLink RX8 137 "PolarTypesModel" "nodes" "I") (List.mem_of_getElem? (i := 1) (by decide +kernel))) (fun _ h9 => h9) rfl dX8_node_205 ?_
        refine lv_imul hx hb dX8_node_208 ?_
        refine lv_topi (fun f_21 ef_21 => ?_)
        have ef_21c : f_21 = 0 := ef_21.trans (by decide)
        subst ef_21c
        refine lv_iload hx hb dX8_node_209 (lv_at hl 0 rfl) ?_
        refine lv_iadd hx hb dX8_node_211 ?_
        refine lv_topi (fun f_22 ef_22 => ?_)
        have ef_22c : f_22 = 1 := ef_22.trans (by decide)
        subst ef_22c
        refine lv_iload hx hb dX8_node_212 (lv_at hl 0 rfl) ?_
        refine lv_iload hx hb dX8_node_214 (lv_at hl 1 rfl) ?_
        refine lv_icmp_ge (tgt := 244) hx hb dX8_node_216 (by decide) (fun c_23 => ?_) (fun c_23 => absurd (i_le_mono c_3 (by decide)) c_23)
        refine lv_bipush (v := (-9)) hx hb dX8_node_244 (by decide) ?_
        refine va_iast hx hb hK hP hD hS 4 0 rfl rfl (vin _ _ (by decide)) dX8_node_246 (fun H locs hP hD hS => ?_)
        obtain ⟨g_24, eg_24⟩ : ∃ y : Nat → Int32, y = upd g_16 (Int32.toNatClampNeg 1) ((-9)) := ⟨_, rfl⟩
        rw [← eg_24] at hP hD
        have hP : va_P (dC, dI) vwCl [(h0, .inr (8, [.int 0, .ref (ad 1), .ref (ad 2), .ref (ad 3), .ref (ad 4), .ref (ad 5), .ref (ad 6), .int 0, .ref (ad 8), .ref (ad 9), .ref (ad 10), .ref (ad 11), .ref (ad 12), .ref (ad 13), .int 0, .ref (ad 15), .int 0, .ref (ad 17), .ref (ad 18), .ref (ad 19), .ref (ad 20), .ref (ad 21), .int 0, .int 0, .int ((-9)), .int 0, .int 0, .int 0, .int 0, .ref (ad 29), .ref (ad 30), .int 0, .int 0, .int 0, .int 0, .int 0, .ref (ad 36), .ref (ad 37), .ref (ad 38), .int 0, .ref (ad 40), .ref (ad 41), .int 0, .ref (ad 43), .ref (ad 44), .int 0, .ref (ad 46), .int 0, .int 0, .ref (ad 49), .ref (ad 50), .int 0, .ref (ad 52), .ref (ad 53), .ref (ad 54), .ref (ad 55), .int 0, .ref (ad 57), .ref (ad 58), .ref (ad 59), .ref (ad 60), .int ((-9)), .int 0, .int 0, .int 0, .int ((-9)), .int 0, .int 0])), (ad 1, .inl (cI, 120, .inl g_7)), (ad 2, .inl (cI, 120, .inl g_9)), (ad 3, .inl (cI, 120, .inl g_10)), (ad 4, .inl (cI, 720, .inl g_24)), (ad 5, .inl (cI, 720, .inl g_19)), (ad 6, .inl (cI, 120, .inl g_11))] H := hP
        have hD : va_D A [(h0, .inr (8, [.int 0, .ref (ad 1), .ref (ad 2), .ref (ad 3), .ref (ad 4), .ref (ad 5), .ref (ad 6), .int 0, .ref (ad 8), .ref (ad 9), .ref (ad 10), .ref (ad 11), .ref (ad 12), .ref (ad 13), .int 0, .ref (ad 15), .int 0, .ref (ad 17), .ref (ad 18), .ref (ad 19), .ref (ad 20), .ref (ad 21), .int 0, .int 0, .int ((-9)), .int 0, .int 0, .int 0, .int 0, .ref (ad 29), .ref (ad 30), .int 0, .int 0, .int 0, .int 0, .int 0, .ref (ad 36), .ref (ad 37), .ref (ad 38), .int 0, .ref (ad 40), .ref (ad 41), .int 0, .ref (ad 43), .ref (ad 44), .int 0, .ref (ad 46), .int 0, .int 0, .ref (ad 49), .ref (ad 50), .int 0, .ref (ad 52), .ref (ad 53), .ref (ad 54), .ref (ad 55), .int 0, .ref (ad 57), .ref (ad 58), .ref (ad 59), .ref (ad 60), .int ((-9)), .int 0, .int 0, .int 0, .int ((-9)), .int 0, .int 0])), (ad 1, .inl (cI, 120, .inl g_7)), (ad 2, .inl (cI, 120, .inl g_9)), (ad 3, .inl (cI, 120, .inl g_10)), (ad 4, .inl (cI, 720, .inl g_24)), (ad 5, .inl (cI, 720, .inl g_19)), (ad 6, .inl (cI, 120, .inl g_11))] := hD
        refine lv_aload_n hx hb dX8_node_247 rfl (lv_at hl 2 rfl) ?_
        refine va_get (D := (dC, dI)) (ci := 8) (v := .ref (ad 5)) (C := RX8) (T := TX8) (N := 68) hx hb hts (fun w h => List.mem_cons_of_mem _ (List.mem_append_right _ h)) hown hK hP 0 rfl rfl 5 (by decide) (hts (.fieldLink RX8 22 "PolarTypesModel" "labels" "[I") (List.mem_of_getElem? (i := 7) (by decide +kernel))) (fun _ h9 => h9) rfl dX8_node_248 ?_
        refine lv_bipush (v := 6) hx hb dX8_node_251 (by decide) ?_
        refine lv_aload_n hx hb dX8_node_253 rfl (lv_at hl 2 rfl) ?_
        refine va_get (D := (dC, dI)) (ci := 8) (v := .int 0) (C := RX8) (T := TX8) (N := 68) hx hb hts (fun w h => List.mem_cons_of_mem _ (List.mem_append_right _ h)) hown hK hP 0 rfl rfl 0 (by decide) (hts (.fieldLink RX8 137 "PolarTypesModel" "nodes" "I") (List.mem_of_getElem? (i := 1) (by decide +kernel))) (fun _ h9 => h9) rfl dX8_node_254 ?_
        refine lv_imul hx hb dX8_node_257 ?_
        refine lv_topi (fun f_25 ef_25 => ?_)
        have ef_25c : f_25 = 0 := ef_25.trans (by decide)
        subst ef_25c
        refine lv_iload hx hb dX8_node_258 (lv_at hl 0 rfl) ?_
        refine lv_iadd hx hb dX8_node_260 ?_
        refine lv_topi (fun f_26 ef_26 => ?_)
        have ef_26c : f_26 = 1 := ef_26.trans (by decide)
        subst ef_26c
        refine lv_bipush (v := (-9)) hx hb dX8_node_261 (by decide) ?_
        refine va_iast hx hb hK hP hD hS 5 0 rfl rfl (vin _ _ (by decide)) dX8_node_263 (fun H locs hP hD hS => ?_)
        obtain ⟨g_27, eg_27⟩ : ∃ y : Nat → Int32, y = upd g_19 (Int32.toNatClampNeg 1) ((-9)) := ⟨_, rfl⟩
        rw [← eg_27] at hP hD
        have hP : va_P (dC, dI) vwCl [(h0, .inr (8, [.int 0, .ref (ad 1), .ref (ad 2), .ref (ad 3), .ref (ad 4), .ref (ad 5), .ref (ad 6), .int 0, .ref (ad 8), .ref (ad 9), .ref (ad 10), .ref (ad 11), .ref (ad 12), .ref (ad 13), .int 0, .ref (ad 15), .int 0, .ref (ad 17), .ref (ad 18), .ref (ad 19), .ref (ad 20), .ref (ad 21), .int 0, .int 0, .int ((-9)), .int 0, .int 0, .int 0, .int 0, .ref (ad 29), .ref (ad 30), .int 0, .int 0, .int 0, .int 0, .int 0, .ref (ad 36), .ref (ad 37), .ref (ad 38), .int 0, .ref (ad 40), .ref (ad 41), .int 0, .ref (ad 43), .ref (ad 44), .int 0, .ref (ad 46), .int 0, .int 0, .ref (ad 49), .ref (ad 50), .int 0, .ref (ad 52), .ref (ad 53), .ref (ad 54), .ref (ad 55), .int 0, .ref (ad 57), .ref (ad 58), .ref (ad 59), .ref (ad 60), .int ((-9)), .int 0, .int 0, .int 0, .int ((-9)), .int 0, .int 0])), (ad 1, .inl (cI, 120, .inl g_7)), (ad 2, .inl (cI, 120, .inl g_9)), (ad 3, .inl (cI, 120, .inl g_10)), (ad 4, .inl (cI, 720, .inl g_24)), (ad 5, .inl (cI, 720, .inl g_27)), (ad 6, .inl (cI, 120, .inl g_11))] H := hP
        have hD : va_D A [(h0, .inr (8, [.int 0, .ref (ad 1), .ref (ad 2), .ref (ad 3), .ref (ad 4), .ref (ad 5), .ref (ad 6), .int 0, .ref (ad 8), .ref (ad 9), .ref (ad 10), .ref (ad 11), .ref (ad 12), .ref (ad 13), .int 0, .ref (ad 15), .int 0, .ref (ad 17), .ref (ad 18), .ref (ad 19), .ref (ad 20), .ref (ad 21), .int 0, .int 0, .int ((-9)), .int 0, .int 0, .int 0, .int 0, .ref (ad 29), .ref (ad 30), .int 0, .int 0, .int 0, .int 0, .int 0, .ref (ad 36), .ref (ad 37), .ref (ad 38), .int 0, .ref (ad 40), .ref (ad 41), .int 0, .ref (ad 43), .ref (ad 44), .int 0, .ref (ad 46), .int 0, .int 0, .ref (ad 49), .ref (ad 50), .int 0, .ref (ad 52), .ref (ad 53), .ref (ad 54), .ref (ad 55), .int 0, .ref (ad 57), .ref (ad 58), .ref (ad 59), .ref (ad 60), .int ((-9)), .int 0, .int 0, .int 0, .int ((-9)), .int 0, .int 0])), (ad 1, .inl (cI, 120, .inl g_7)), (ad 2, .inl (cI, 120, .inl g_9)), (ad 3, .inl (cI, 120, .inl g_10)), (ad 4, .inl (cI, 720, .inl g_24)), (ad 5, .inl (cI, 720, .inl g_27)), (ad 6, .inl (cI, 120, .inl g_11))] := hD
        refine lv_iinc (v := 2) (lv' := [(7, .int 2), (6, .int (m_parts kd)), (0, .ref h0), (1, .int kd), (2, .int v), (3, .int na), (4, .int nb), (5, .int nc)]) hx hb dX8_node_264 hl (k := 0) rfl (by decide) (by decide) rfl (fun ls hl => ?_)
        refine lv_goto (tgt := 191) hx hb dX8_node_267 (by decide) ?_
        refine lv_iload hx hb dX8_node_191 (lv_at hl 0 rfl) ?_
        refine lv_bipush (v := 6) hx hb dX8_node_193 (by decide) ?_
        refine lv_icmp_ge (tgt := 270) hx hb dX8_node_195 (by decide) (fun c_28 => absurd c_28 (by decide)) (fun c_28 => ?_)
        refine lv_aload_n hx hb dX8_node_198 rfl (lv_at hl 2 rfl) ?_
        refine va_get (D := (dC, dI)) (ci := 8) (v := .ref (ad 4)) (C := RX8) (T := TX8) (N := 68) hx hb hts (fun w h => List.mem_cons_of_mem _ (List.mem_append_right _ h)) hown hK hP 0 rfl rfl 4 (by decide) (hts (.fieldLink RX8 19 "PolarTypesModel" "parts" "[I") (List.mem_of_getElem? (i := 6) (by decide +kernel))) (fun _ h9 => h9) rfl dX8_node_199 ?_
        refine lv_bipush (v := 6) hx hb dX8_node_202 (by decide) ?_
        refine lv_aload_n hx hb dX8_node_204 rfl (lv_at hl 2 rfl) ?_
        refine va_get (D := (dC, dI)) (ci := 8) (v := .int 0) (C := RX8) (T := TX8) (N := 68) hx hb hts (fun w h => List.mem_cons_of_mem _ (List.mem_append_right _ h)) hown hK hP 0 rfl rfl 0 (by decide) (hts (.fieldLink RX8 137 "PolarTypesModel" "nodes" "I") (List.mem_of_getElem? (i := 1) (by decide +kernel))) (fun _ h9 => h9) rfl dX8_node_205 ?_
        refine lv_imul hx hb dX8_node_208 ?_
        refine lv_topi (fun f_29 ef_29 => ?_)
        have ef_29c : f_29 = 0 := ef_29.trans (by decide)
        subst ef_29c
        refine lv_iload hx hb dX8_node_209 (lv_at hl 0 rfl) ?_
        refine lv_iadd hx hb dX8_node_211 ?_
        refine lv_topi (fun f_30 ef_30 => ?_)
        have ef_30c : f_30 = 2 := ef_30.trans (by decide)
        subst ef_30c
        refine lv_iload hx hb dX8_node_212 (lv_at hl 0 rfl) ?_
        refine lv_iload hx hb dX8_node_214 (lv_at hl 1 rfl) ?_
        refine lv_icmp_ge (tgt := 244) hx hb dX8_node_216 (by decide) (fun c_31 => ?_) (fun c_31 => absurd (i_le_mono c_3 (by decide)) c_31)
        refine lv_bipush (v := (-9)) hx hb dX8_node_244 (by decide) ?_
        refine va_iast hx hb hK hP hD hS 4 0 rfl rfl (vin _ _ (by decide)) dX8_node_246 (fun H locs hP hD hS => ?_)
        obtain ⟨g_32, eg_32⟩ : ∃ y : Nat → Int32, y = upd g_24 (Int32.toNatClampNeg 2) ((-9)) := ⟨_, rfl⟩
        rw [← eg_32] at hP hD
        have hP : va_P (dC, dI) vwCl [(h0, .inr (8, [.int 0, .ref (ad 1), .ref (ad 2), .ref (ad 3), .ref (ad 4), .ref (ad 5), .ref (ad 6), .int 0, .ref (ad 8), .ref (ad 9), .ref (ad 10), .ref (ad 11), .ref (ad 12), .ref (ad 13), .int 0, .ref (ad 15), .int 0, .ref (ad 17), .ref (ad 18), .ref (ad 19), .ref (ad 20), .ref (ad 21), .int 0, .int 0, .int ((-9)), .int 0, .int 0, .int 0, .int 0, .ref (ad 29), .ref (ad 30), .int 0, .int 0, .int 0, .int 0, .int 0, .ref (ad 36), .ref (ad 37), .ref (ad 38), .int 0, .ref (ad 40), .ref (ad 41), .int 0, .ref (ad 43), .ref (ad 44), .int 0, .ref (ad 46), .int 0, .int 0, .ref (ad 49), .ref (ad 50), .int 0, .ref (ad 52), .ref (ad 53), .ref (ad 54), .ref (ad 55), .int 0, .ref (ad 57), .ref (ad 58), .ref (ad 59), .ref (ad 60), .int ((-9)), .int 0, .int 0, .int 0, .int ((-9)), .int 0, .int 0])), (ad 1, .inl (cI, 120, .inl g_7)), (ad 2, .inl (cI, 120, .inl g_9)), (ad 3, .inl (cI, 120, .inl g_10)), (ad 4, .inl (cI, 720, .inl g_32)), (ad 5, .inl (cI, 720, .inl g_27)), (ad 6, .inl (cI, 120, .inl g_11))] H := hP
        have hD : va_D A [(h0, .inr (8, [.int 0, .ref (ad 1), .ref (ad 2), .ref (ad 3), .ref (ad 4), .ref (ad 5), .ref (ad 6), .int 0, .ref (ad 8), .ref (ad 9), .ref (ad 10), .ref (ad 11), .ref (ad 12), .ref (ad 13), .int 0, .ref (ad 15), .int 0, .ref (ad 17), .ref (ad 18), .ref (ad 19), .ref (ad 20), .ref (ad 21), .int 0, .int 0, .int ((-9)), .int 0, .int 0, .int 0, .int 0, .ref (ad 29), .ref (ad 30), .int 0, .int 0, .int 0, .int 0, .int 0, .ref (ad 36), .ref (ad 37), .ref (ad 38), .int 0, .ref (ad 40), .ref (ad 41), .int 0, .ref (ad 43), .ref (ad 44), .int 0, .ref (ad 46), .int 0, .int 0, .ref (ad 49), .ref (ad 50), .int 0, .ref (ad 52), .ref (ad 53), .ref (ad 54), .ref (ad 55), .int 0, .ref (ad 57), .ref (ad 58), .ref (ad 59), .ref (ad 60), .int ((-9)), .int 0, .int 0, .int 0, .int ((-9)), .int 0, .int 0])), (ad 1, .inl (cI, 120, .inl g_7)), (ad 2, .inl (cI, 120, .inl g_9)), (ad 3, .inl (cI, 120, .inl g_10)), (ad 4, .inl (cI, 720, .inl g_32)), (ad 5, .inl (cI, 720, .inl g_27)), (ad 6, .inl (cI, 120, .inl g_11))] := hD
        refine lv_aload_n hx hb dX8_node_247 rfl (lv_at hl 2 rfl) ?_
        refine va_get (D := (dC, dI)) (ci := 8) (v := .ref (ad 5)) (C := RX8) (T := TX8) (N := 68) hx hb hts (fun w h => List.mem_cons_of_mem _ (List.mem_append_right _ h)) hown hK hP 0 rfl rfl 5 (by decide) (hts (.fieldLink RX8 22 "PolarTypesModel" "labels" "[I") (List.mem_of_getElem? (i := 7) (by decide +kernel))) (fun _ h9 => h9) rfl dX8_node_248 ?_
        refine lv_bipush (v := 6) hx hb dX8_node_251 (by decide) ?_
        refine lv_aload_n hx hb dX8_node_253 rfl (lv_at hl 2 rfl) ?_
        refine va_get (D := (dC, dI)) (ci := 8) (v := .int 0) (C := RX8) (T := TX8) (N := 68) hx hb hts (fun w h => List.mem_cons_of_mem _ (List.mem_append_right _ h)) hown hK hP 0 rfl rfl 0 (by decide) (hts (.fieldLink RX8 137 "PolarTypesModel" "nodes" "I") (List.mem_of_getElem? (i := 1) (by decide +kernel))) (fun _ h9 => h9) rfl dX8_node_254 ?_
        refine lv_imul hx hb dX8_node_257 ?_
        refine lv_topi (fun f_33 ef_33 => ?_)
        have ef_33c : f_33 = 0 := ef_33.trans (by decide)
        subst ef_33c
        refine lv_iload hx hb dX8_node_258 (lv_at hl 0 rfl) ?_
        refine lv_iadd hx hb dX8_node_260 ?_
        refine lv_topi (fun f_34 ef_34 => ?_)
        have ef_34c : f_34 = 2 := ef_34.trans (by decide)
        subst ef_34c
        refine lv_bipush (v := (-9)) hx hb dX8_node_261 (by decide) ?_
        refine va_iast hx hb hK hP hD hS 5 0 rfl rfl (vin _ _ (by decide)) dX8_node_263 (fun H locs hP hD hS => ?_)
        obtain ⟨g_35, eg_35⟩ : ∃ y : Nat → Int32, y = upd g_27 (Int32.toNatClampNeg 2) ((-9)) := ⟨_, rfl⟩
        rw [← eg_35] at hP hD
        have hP : va_P (dC, dI) vwCl [(h0, .inr (8, [.int 0, .ref (ad 1), .ref (ad 2), .ref (ad 3), .ref (ad 4), .ref (ad 5), .ref (ad 6), .int 0, .ref (ad 8), .ref (ad 9), .ref (ad 10), .ref (ad 11), .ref (ad 12), .ref (ad 13), .int 0, .ref (ad 15), .int 0, .ref (ad 17), .ref (ad 18), .ref (ad 19), .ref (ad 20), .ref (ad 21), .int 0, .int 0, .int ((-9)), .int 0, .int 0, .int 0, .int 0, .ref (ad 29), .ref (ad 30), .int 0, .int 0, .int 0, .int 0, .int 0, .ref (ad 36), .ref (ad 37), .ref (ad 38), .int 0, .ref (ad 40), .ref (ad 41), .int 0, .ref (ad 43), .ref (ad 44), .int 0, .ref (ad 46), .int 0, .int 0, .ref (ad 49), .ref (ad 50), .int 0, .ref (ad 52), .ref (ad 53), .ref (ad 54), .ref (ad 55), .int 0, .ref (ad 57), .ref (ad 58), .ref (ad 59), .ref (ad 60), .int ((-9)), .int 0, .int 0, .int 0, .int ((-9)), .int 0, .int 0])), (ad 1, .inl (cI, 120, .inl g_7)), (ad 2, .inl (cI, 120, .inl g_9)), (ad 3, .inl (cI, 120, .inl g_10)), (ad 4, .inl (cI, 720, .inl g_32)), (ad 5, .inl (cI, 720, .inl g_35)), (ad 6, .inl (cI, 120, .inl g_11))] H := hP
        have hD : va_D A [(h0, .inr (8, [.int 0, .ref (ad 1), .ref (ad 2), .ref (ad 3), .ref (ad 4), .ref (ad 5), .ref (ad 6), .int 0, .ref (ad 8), .ref (ad 9), .ref (ad 10), .ref (ad 11), .ref (ad 12), .ref (ad 13), .int 0, .ref (ad 15), .int 0, .ref (ad 17), .ref (ad 18), .ref (ad 19), .ref (ad 20), .ref (ad 21), .int 0, .int 0, .int ((-9)), .int 0, .int 0, .int 0, .int 0, .ref (ad 29), .ref (ad 30), .int 0, .int 0, .int 0, .int 0, .int 0, .ref (ad 36), .ref (ad 37), .ref (ad 38), .int 0, .ref (ad 40), .ref (ad 41), .int 0, .ref (ad 43), .ref (ad 44), .int 0, .ref (ad 46), .int 0, .int 0, .ref (ad 49), .ref (ad 50), .int 0, .ref (ad 52), .ref (ad 53), .ref (ad 54), .ref (ad 55), .int 0, .ref (ad 57), .ref (ad 58), .ref (ad 59), .ref (ad 60), .int ((-9)), .int 0, .int 0, .int 0, .int ((-9)), .int 0, .int 0])), (ad 1, .inl (cI, 120, .inl g_7)), (ad 2, .inl (cI, 120, .inl g_9)), (ad 3, .inl (cI, 120, .inl g_10)), (ad 4, .inl (cI, 720, .inl g_32)), (ad 5, .inl (cI, 720, .inl g_35)), (ad 6, .inl (cI, 120, .inl g_11))] := hD
        refine lv_iinc (v := 3) (lv' := [(7, .int 3), (6, .int (m_parts kd)), (0, .ref h0), (1, .int kd), (2, .int v), (3, .int na), (4, .int nb), (5, .int nc)]) hx hb dX8_node_264 hl (k := 0) rfl (by decide) (by decide) rfl (fun ls hl => ?_)
        refine lv_goto (tgt := 191) hx hb dX8_node_267 (by decide) ?_
        refine lv_iload hx hb dX8_node_191 (lv_at hl 0 rfl) ?_
        refine lv_bipush (v := 6) hx hb dX8_node_193 (by decide) ?_
        refine lv_icmp_ge (tgt := 270) hx hb dX8_node_195 (by decide) (fun c_36 => absurd c_36 (by decide)) (fun c_36 => ?_)
        refine lv_aload_n hx hb dX8_node_198 rfl (lv_at hl 2 rfl) ?_
        refine va_get (D := (dC, dI)) (ci := 8) (v := .ref (ad 4)) (C := RX8) (T := TX8) (N := 68) hx hb hts (fun w h => List.mem_cons_of_mem _ (List.mem_append_right _ h)) hown hK hP 0 rfl rfl 4 (by decide) (hts (.fieldLink RX8 19 "PolarTypesModel" "parts" "[I") (List.mem_of_getElem? (i := 6) (by decide +kernel))) (fun _ h9 => h9) rfl dX8_node_199 ?_
        refine lv_bipush (v := 6) hx hb dX8_node_202 (by decide) ?_
        refine lv_aload_n hx hb dX8_node_204 rfl (lv_at hl 2 rfl) ?_
        refine va_get (D := (dC, dI)) (ci := 8) (v := .int 0) (C := RX8) (T := TX8) (N := 68) hx hb hts (fun w h => List.mem_cons_of_mem _ (List.mem_append_right _ h)) hown hK hP 0 rfl rfl 0 (by decide) (hts (.fieldLink RX8 137 "PolarTypesModel" "nodes" "I") (List.mem_of_getElem? (i := 1) (by decide +kernel))) (fun _ h9 => h9) rfl dX8_node_205 ?_
        refine lv_imul hx hb dX8_node_208 ?_
        refine lv_topi (fun f_37 ef_37 => ?_)
        have ef_37c : f_37 = 0 := ef_37.trans (by decide)
        subst ef_37c
        refine lv_iload hx hb dX8_node_209 (lv_at hl 0 rfl) ?_
        refine lv_iadd hx hb dX8_node_211 ?_
        refine lv_topi (fun f_38 ef_38 => ?_)
        have ef_38c : f_38 = 3 := ef_38.trans (by decide)
        subst ef_38c
        refine lv_iload hx hb dX8_node_212 (lv_at hl 0 rfl) ?_
        refine lv_iload hx hb dX8_node_214 (lv_at hl 1 rfl) ?_
        refine lv_icmp_ge (tgt := 244) hx hb dX8_node_216 (by decide) (fun c_39 => ?_) (fun c_39 => absurd (i_le_mono c_3 (by decide)) c_39)
        refine lv_bipush (v := (-9)) hx hb dX8_node_244 (by decide) ?_
        refine va_iast hx hb hK hP hD hS 4 0 rfl rfl (vin _ _ (by decide)) dX8_node_246 (fun H locs hP hD hS => ?_)
        obtain ⟨g_40, eg_40⟩ : ∃ y : Nat → Int32, y = upd g_32 (Int32.toNatClampNeg 3) ((-9)) := ⟨_, rfl⟩
        rw [← eg_40] at hP hD
        have hP : va_P (dC, dI) vwCl [(h0, .inr (8, [.int 0, .ref (ad 1), .ref (ad 2), .ref (ad 3), .ref (ad 4), .ref (ad 5), .ref (ad 6), .int 0, .ref (ad 8), .ref (ad 9), .ref (ad 10), .ref (ad 11), .ref (ad 12), .ref (ad 13), .int 0, .ref (ad 15), .int 0, .ref (ad 17), .ref (ad 18), .ref (ad 19), .ref (ad 20), .ref (ad 21), .int 0, .int 0, .int ((-9)), .int 0, .int 0, .int 0, .int 0, .ref (ad 29), .ref (ad 30), .int 0, .int 0, .int 0, .int 0, .int 0, .ref (ad 36), .ref (ad 37), .ref (ad 38), .int 0, .ref (ad 40), .ref (ad 41), .int 0, .ref (ad 43), .ref (ad 44), .int 0, .ref (ad 46), .int 0, .int 0, .ref (ad 49), .ref (ad 50), .int 0, .ref (ad 52), .ref (ad 53), .ref (ad 54), .ref (ad 55), .int 0, .ref (ad 57), .ref (ad 58), .ref (ad 59), .ref (ad 60), .int ((-9)), .int 0, .int 0, .int 0, .int ((-9)), .int 0, .int 0])), (ad 1, .inl (cI, 120, .inl g_7)), (ad 2, .inl (cI, 120, .inl g_9)), (ad 3, .inl (cI, 120, .inl g_10)), (ad 4, .inl (cI, 720, .inl g_40)), (ad 5, .inl (cI, 720, .inl g_35)), (ad 6, .inl (cI, 120, .inl g_11))] H := hP
        have hD : va_D A [(h0, .inr (8, [.int 0, .ref (ad 1), .ref (ad 2), .ref (ad 3), .ref (ad 4), .ref (ad 5), .ref (ad 6), .int 0, .ref (ad 8), .ref (ad 9), .ref (ad 10), .ref (ad 11), .ref (ad 12), .ref (ad 13), .int 0, .ref (ad 15), .int 0, .ref (ad 17), .ref (ad 18), .ref (ad 19), .ref (ad 20), .ref (ad 21), .int 0, .int 0, .int ((-9)), .int 0, .int 0, .int 0, .int 0, .ref (ad 29), .ref (ad 30), .int 0, .int 0, .int 0, .int 0, .int 0, .ref (ad 36), .ref (ad 37), .ref (ad 38), .int 0, .ref (ad 40), .ref (ad 41), .int 0, .ref (ad 43), .ref (ad 44), .int 0, .ref (ad 46), .int 0, .int 0, .ref (ad 49), .ref (ad 50), .int 0, .ref (ad 52), .ref (ad 53), .ref (ad 54), .ref (ad 55), .int 0, .ref (ad 57), .ref (ad 58), .ref (ad 59), .ref (ad 60), .int ((-9)), .int 0, .int 0, .int 0, .int ((-9)), .int 0, .int 0])), (ad 1, .inl (cI, 120, .inl g_7)), (ad 2, .inl (cI, 120, .inl g_9)), (ad 3, .inl (cI, 120, .inl g_10)), (ad 4, .inl (cI, 720, .inl g_40)), (ad 5, .inl (cI, 720, .inl g_35)), (ad 6, .inl (cI, 120, .inl g_11))] := hD
        refine lv_aload_n hx hb dX8_node_247 rfl (lv_at hl 2 rfl) ?_
        refine va_get (D := (dC, dI)) (ci := 8) (v := .ref (ad 5)) (C := RX8) (T := TX8) (N := 68) hx hb hts (fun w h => List.mem_cons_of_mem _ (List.mem_append_right _ h)) hown hK hP 0 rfl rfl 5 (by decide) (hts (.fieldLink RX8 22 "PolarTypesModel" "labels" "[I") (List.mem_of_getElem? (i := 7) (by decide +kernel))) (fun _ h9 => h9) rfl dX8_node_248 ?_
        refine lv_bipush (v := 6) hx hb dX8_node_251 (by decide) ?_
        refine lv_aload_n hx hb dX8_node_253 rfl (lv_at hl 2 rfl) ?_
        refine va_get (D := (dC, dI)) (ci := 8) (v := .int 0) (C := RX8) (T := TX8) (N := 68) hx hb hts (fun w h => List.mem_cons_of_mem _ (List.mem_append_right _ h)) hown hK hP 0 rfl rfl 0 (by decide) (hts (.fieldLink RX8 137 "PolarTypesModel" "nodes" "I") (List.mem_of_getElem? (i := 1) (by decide +kernel))) (fun _ h9 => h9) rfl dX8_node_254 ?_
        refine lv_imul hx hb dX8_node_257 ?_
        refine lv_topi (fun f_41 ef_41 => ?_)
        have ef_41c : f_41 = 0 := ef_41.trans (by decide)
        subst ef_41c
        refine lv_iload hx hb dX8_node_258 (lv_at hl 0 rfl) ?_
        refine lv_iadd hx hb dX8_node_260 ?_
        refine lv_topi (fun f_42 ef_42 => ?_)
        have ef_42c : f_42 = 3 := ef_42.trans (by decide)
        subst ef_42c
        refine lv_bipush (v := (-9)) hx hb dX8_node_261 (by decide) ?_
        refine va_iast hx hb hK hP hD hS 5 0 rfl rfl (vin _ _ (by decide)) dX8_node_263 (fun H locs hP hD hS => ?_)
        obtain ⟨g_43, eg_43⟩ : ∃ y : Nat → Int32, y = upd g_35 (Int32.toNatClampNeg 3) ((-9)) := ⟨_, rfl⟩
        rw [← eg_43] at hP hD
        have hP : va_P (dC, dI) vwCl [(h0, .inr (8, [.int 0, .ref (ad 1), .ref (ad 2), .ref (ad 3), .ref (ad 4), .ref (ad 5), .ref (ad 6), .int 0, .ref (ad 8), .ref (ad 9), .ref (ad 10), .ref (ad 11), .ref (ad 12), .ref (ad 13), .int 0, .ref (ad 15), .int 0, .ref (ad 17), .ref (ad 18), .ref (ad 19), .ref (ad 20), .ref (ad 21), .int 0, .int 0, .int ((-9)), .int 0, .int 0, .int 0, .int 0, .ref (ad 29), .ref (ad 30), .int 0, .int 0, .int 0, .int 0, .int 0, .ref (ad 36), .ref (ad 37), .ref (ad 38), .int 0, .ref (ad 40), .ref (ad 41), .int 0, .ref (ad 43), .ref (ad 44), .int 0, .ref (ad 46), .int 0, .int 0, .ref (ad 49), .ref (ad 50), .int 0, .ref (ad 52), .ref (ad 53), .ref (ad 54), .ref (ad 55), .int 0, .ref (ad 57), .ref (ad 58), .ref (ad 59), .ref (ad 60), .int ((-9)), .int 0, .int 0, .int 0, .int ((-9)), .int 0, .int 0])), (ad 1, .inl (cI, 120, .inl g_7)), (ad 2, .inl (cI, 120, .inl g_9)), (ad 3, .inl (cI, 120, .inl g_10)), (ad 4, .inl (cI, 720, .inl g_40)), (ad 5, .inl (cI, 720, .inl g_43)), (ad 6, .inl (cI, 120, .inl g_11))] H := hP
        have hD : va_D A [(h0, .inr (8, [.int 0, .ref (ad 1), .ref (ad 2), .ref (ad 3), .ref (ad 4), .ref (ad 5), .ref (ad 6), .int 0, .ref (ad 8), .ref (ad 9), .ref (ad 10), .ref (ad 11), .ref (ad 12), .ref (ad 13), .int 0, .ref (ad 15), .int 0, .ref (ad 17), .ref (ad 18), .ref (ad 19), .ref (ad 20), .ref (ad 21), .int 0, .int 0, .int ((-9)), .int 0, .int 0, .int 0, .int 0, .ref (ad 29), .ref (ad 30), .int 0, .int 0, .int 0, .int 0, .int 0, .ref (ad 36), .ref (ad 37), .ref (ad 38), .int 0, .ref (ad 40), .ref (ad 41), .int 0, .ref (ad 43), .ref (ad 44), .int 0, .ref (ad 46), .int 0, .int 0, .ref (ad 49), .ref (ad 50), .int 0, .ref (ad 52), .ref (ad 53), .ref (ad 54), .ref (ad 55), .int 0, .ref (ad 57), .ref (ad 58), .ref (ad 59), .ref (ad 60), .int ((-9)), .int 0, .int 0, .int 0, .int ((-9)), .int 0, .int 0])), (ad 1, .inl (cI, 120, .inl g_7)), (ad 2, .inl (cI, 120, .inl g_9)), (ad 3, .inl (cI, 120, .inl g_10)), (ad 4, .inl (cI, 720, .inl g_40)), (ad 5, .inl (cI, 720, .inl g_43)), (ad 6, .inl (cI, 120, .inl g_11))] := hD
        refine lv_iinc (v := 4) (lv' := [(7, .int 4), (6, .int (m_parts kd)), (0, .ref h0), (1, .int kd), (2, .int v), (3, .int na), (4, .int nb), (5, .int nc)]) hx hb dX8_node_264 hl (k := 0) rfl (by decide) (by decide) rfl (fun ls hl => ?_)
        refine lv_goto (tgt := 191) hx hb dX8_node_267 (by decide) ?_
        refine lv_iload hx hb dX8_node_191 (lv_at hl 0 rfl) ?_
        refine lv_bipush (v := 6) hx hb dX8_node_193 (by decide) ?_
        refine lv_icmp_ge (tgt := 270) hx hb dX8_node_195 (by decide) (fun c_44 => absurd c_44 (by decide)) (fun c_44 => ?_)
        refine lv_aload_n hx hb dX8_node_198 rfl (lv_at hl 2 rfl) ?_
        refine va_get (D := (dC, dI)) (ci := 8) (v := .ref (ad 4)) (C := RX8) (T := TX8) (N := 68) hx hb hts (fun w h => List.mem_cons_of_mem _ (List.mem_append_right _ h)) hown hK hP 0 rfl rfl 4 (by decide) (hts (.fieldLink RX8 19 "PolarTypesModel" "parts" "[I") (List.mem_of_getElem? (i := 6) (by decide +kernel))) (fun _ h9 => h9) rfl dX8_node_199 ?_
        refine lv_bipush (v := 6) hx hb dX8_node_202 (by decide) ?_
        refine lv_aload_n hx hb dX8_node_204 rfl (lv_at hl 2 rfl) ?_
        refine va_get (D := (dC, dI)) (ci := 8) (v := .int 0) (C := RX8) (T := TX8) (N := 68) hx hb hts (fun w h => List.mem_cons_of_mem _ (List.mem_append_right _ h)) hown hK hP 0 rfl rfl 0 (by decide) (hts (.fieldLink RX8 137 "PolarTypesModel" "nodes" "I") (List.mem_of_getElem? (i := 1) (by decide +kernel))) (fun _ h9 => h9) rfl dX8_node_205 ?_
        refine lv_imul hx hb dX8_node_208 ?_
        refine lv_topi (fun f_45 ef_45 => ?_)
        have ef_45c : f_45 = 0 := ef_45.trans (by decide)
        subst ef_45c
        refine lv_iload hx hb dX8_node_209 (lv_at hl 0 rfl) ?_
        refine lv_iadd hx hb dX8_node_211 ?_
        refine lv_topi (fun f_46 ef_46 => ?_)
        have ef_46c : f_46 = 4 := ef_46.trans (by decide)
        subst ef_46c
        refine lv_iload hx hb dX8_node_212 (lv_at hl 0 rfl) ?_
        refine lv_iload hx hb dX8_node_214 (lv_at hl 1 rfl) ?_
        refine lv_icmp_ge (tgt := 244) hx hb dX8_node_216 (by decide) (fun c_47 => ?_) (fun c_47 => absurd (i_le_mono c_3 (by decide)) c_47)
        refine lv_bipush (v := (-9)) hx hb dX8_node_244 (by decide) ?_
        refine va_iast hx hb hK hP hD hS 4 0 rfl rfl (vin _ _ (by decide)) dX8_node_246 (fun H locs hP hD hS => ?_)
        obtain ⟨g_48, eg_48⟩ : ∃ y : Nat → Int32, y = upd g_40 (Int32.toNatClampNeg 4) ((-9)) := ⟨_, rfl⟩
        rw [← eg_48] at hP hD
        have hP : va_P (dC, dI) vwCl [(h0, .inr (8, [.int 0, .ref (ad 1), .ref (ad 2), .ref (ad 3), .ref (ad 4), .ref (ad 5), .ref (ad 6), .int 0, .ref (ad 8), .ref (ad 9), .ref (ad 10), .ref (ad 11), .ref (ad 12), .ref (ad 13), .int 0, .ref (ad 15), .int 0, .ref (ad 17), .ref (ad 18), .ref (ad 19), .ref (ad 20), .ref (ad 21), .int 0, .int 0, .int ((-9)), .int 0, .int 0, .int 0, .int 0, .ref (ad 29), .ref (ad 30), .int 0, .int 0, .int 0, .int 0, .int 0, .ref (ad 36), .ref (ad 37), .ref (ad 38), .int 0, .ref (ad 40), .ref (ad 41), .int 0, .ref (ad 43), .ref (ad 44), .int 0, .ref (ad 46), .int 0, .int 0, .ref (ad 49), .ref (ad 50), .int 0, .ref (ad 52), .ref (ad 53), .ref (ad 54), .ref (ad 55), .int 0, .ref (ad 57), .ref (ad 58), .ref (ad 59), .ref (ad 60), .int ((-9)), .int 0, .int 0, .int 0, .int ((-9)), .int 0, .int 0])), (ad 1, .inl (cI, 120, .inl g_7)), (ad 2, .inl (cI, 120, .inl g_9)), (ad 3, .inl (cI, 120, .inl g_10)), (ad 4, .inl (cI, 720, .inl g_48)), (ad 5, .inl (cI, 720, .inl g_43)), (ad 6, .inl (cI, 120, .inl g_11))] H := hP
        have hD : va_D A [(h0, .inr (8, [.int 0, .ref (ad 1), .ref (ad 2), .ref (ad 3), .ref (ad 4), .ref (ad 5), .ref (ad 6), .int 0, .ref (ad 8), .ref (ad 9), .ref (ad 10), .ref (ad 11), .ref (ad 12), .ref (ad 13), .int 0, .ref (ad 15), .int 0, .ref (ad 17), .ref (ad 18), .ref (ad 19), .ref (ad 20), .ref (ad 21), .int 0, .int 0, .int ((-9)), .int 0, .int 0, .int 0, .int 0, .ref (ad 29), .ref (ad 30), .int 0, .int 0, .int 0, .int 0, .int 0, .ref (ad 36), .ref (ad 37), .ref (ad 38), .int 0, .ref (ad 40), .ref (ad 41), .int 0, .ref (ad 43), .ref (ad 44), .int 0, .ref (ad 46), .int 0, .int 0, .ref (ad 49), .ref (ad 50), .int 0, .ref (ad 52), .ref (ad 53), .ref (ad 54), .ref (ad 55), .int 0, .ref (ad 57), .ref (ad 58), .ref (ad 59), .ref (ad 60), .int ((-9)), .int 0, .int 0, .int 0, .int ((-9)), .int 0, .int 0])), (ad 1, .inl (cI, 120, .inl g_7)), (ad 2, .inl (cI, 120, .inl g_9)), (ad 3, .inl (cI, 120, .inl g_10)), (ad 4, .inl (cI, 720, .inl g_48)), (ad 5, .inl (cI, 720, .inl g_43)), (ad 6, .inl (cI, 120, .inl g_11))] := hD
        refine lv_aload_n hx hb dX8_node_247 rfl (lv_at hl 2 rfl) ?_
        refine va_get (D := (dC, dI)) (ci := 8) (v := .ref (ad 5)) (C := RX8) (T := TX8) (N := 68) hx hb hts (fun w h => List.mem_cons_of_mem _ (List.mem_append_right _ h)) hown hK hP 0 rfl rfl 5 (by decide) (hts (.fieldLink RX8 22 "PolarTypesModel" "labels" "[I") (List.mem_of_getElem? (i := 7) (by decide +kernel))) (fun _ h9 => h9) rfl dX8_node_248 ?_
        refine lv_bipush (v := 6) hx hb dX8_node_251 (by decide) ?_
        refine lv_aload_n hx hb dX8_node_253 rfl (lv_at hl 2 rfl) ?_
        refine va_get (D := (dC, dI)) (ci := 8) (v := .int 0) (C := RX8) (T := TX8) (N := 68) hx hb hts (fun w h => List.mem_cons_of_mem _ (List.mem_append_right _ h)) hown hK hP 0 rfl rfl 0 (by decide) (hts (.fieldLink RX8 137 "PolarTypesModel" "nodes" "I") (List.mem_of_getElem? (i := 1) (by decide +kernel))) (fun _ h9 => h9) rfl dX8_node_254 ?_
        refine lv_imul hx hb dX8_node_257 ?_
        refine lv_topi (fun f_49 ef_49 => ?_)
        have ef_49c : f_49 = 0 := ef_49.trans (by decide)
        subst ef_49c
        refine lv_iload hx hb dX8_node_258 (lv_at hl 0 rfl) ?_
        refine lv_iadd hx hb dX8_node_260 ?_
        refine lv_topi (fun f_50 ef_50 => ?_)
        have ef_50c : f_50 = 4 := ef_50.trans (by decide)
        subst ef_50c
        refine lv_bipush (v := (-9)) hx hb dX8_node_261 (by decide) ?_
        refine va_iast hx hb hK hP hD hS 5 0 rfl rfl (vin _ _ (by decide)) dX8_node_263 (fun H locs hP hD hS => ?_)
        obtain ⟨g_51, eg_51⟩ : ∃ y : Nat → Int32, y = upd g_43 (Int32.toNatClampNeg 4) ((-9)) := ⟨_, rfl⟩
        rw [← eg_51] at hP hD
        have hP : va_P (dC, dI) vwCl [(h0, .inr (8, [.int 0, .ref (ad 1), .ref (ad 2), .ref (ad 3), .ref (ad 4), .ref (ad 5), .ref (ad 6), .int 0, .ref (ad 8), .ref (ad 9), .ref (ad 10), .ref (ad 11), .ref (ad 12), .ref (ad 13), .int 0, .ref (ad 15), .int 0, .ref (ad 17), .ref (ad 18), .ref (ad 19), .ref (ad 20), .ref (ad 21), .int 0, .int 0, .int ((-9)), .int 0, .int 0, .int 0, .int 0, .ref (ad 29), .ref (ad 30), .int 0, .int 0, .int 0, .int 0, .int 0, .ref (ad 36), .ref (ad 37), .ref (ad 38), .int 0, .ref (ad 40), .ref (ad 41), .int 0, .ref (ad 43), .ref (ad 44), .int 0, .ref (ad 46), .int 0, .int 0, .ref (ad 49), .ref (ad 50), .int 0, .ref (ad 52), .ref (ad 53), .ref (ad 54), .ref (ad 55), .int 0, .ref (ad 57), .ref (ad 58), .ref (ad 59), .ref (ad 60), .int ((-9)), .int 0, .int 0, .int 0, .int ((-9)), .int 0, .int 0])), (ad 1, .inl (cI, 120, .inl g_7)), (ad 2, .inl (cI, 120, .inl g_9)), (ad 3, .inl (cI, 120, .inl g_10)), (ad 4, .inl (cI, 720, .inl g_48)), (ad 5, .inl (cI, 720, .inl g_51)), (ad 6, .inl (cI, 120, .inl g_11))] H := hP
        have hD : va_D A [(h0, .inr (8, [.int 0, .ref (ad 1), .ref (ad 2), .ref (ad 3), .ref (ad 4), .ref (ad 5), .ref (ad 6), .int 0, .ref (ad 8), .ref (ad 9), .ref (ad 10), .ref (ad 11), .ref (ad 12), .ref (ad 13), .int 0, .ref (ad 15), .int 0, .ref (ad 17), .ref (ad 18), .ref (ad 19), .ref (ad 20), .ref (ad 21), .int 0, .int 0, .int ((-9)), .int 0, .int 0, .int 0, .int 0, .ref (ad 29), .ref (ad 30), .int 0, .int 0, .int 0, .int 0, .int 0, .ref (ad 36), .ref (ad 37), .ref (ad 38), .int 0, .ref (ad 40), .ref (ad 41), .int 0, .ref (ad 43), .ref (ad 44), .int 0, .ref (ad 46), .int 0, .int 0, .ref (ad 49), .ref (ad 50), .int 0, .ref (ad 52), .ref (ad 53), .ref (ad 54), .ref (ad 55), .int 0, .ref (ad 57), .ref (ad 58), .ref (ad 59), .ref (ad 60), .int ((-9)), .int 0, .int 0, .int 0, .int ((-9)), .int 0, .int 0])), (ad 1, .inl (cI, 120, .inl g_7)), (ad 2, .inl (cI, 120, .inl g_9)), (ad 3, .inl (cI, 120, .inl g_10)), (ad 4, .inl (cI, 720, .inl g_48)), (ad 5, .inl (cI, 720, .inl g_51)), (ad 6, .inl (cI, 120, .inl g_11))] := hD
        refine lv_iinc (v := 5) (lv' := [(7, .int 5), (6, .int (m_parts kd)), (0, .ref h0), (1, .int kd), (2, .int v), (3, .int na), (4, .int nb), (5, .int nc)]) hx hb dX8_node_264 hl (k := 0) rfl (by decide) (by decide) rfl (fun ls hl => ?_)
        refine lv_goto (tgt := 191) hx hb dX8_node_267 (by decide) ?_
        refine lv_iload hx hb dX8_node_191 (lv_at hl 0 rfl) ?_
        refine lv_bipush (v := 6) hx hb dX8_node_193 (by decide) ?_
        refine lv_icmp_ge (tgt := 270) hx hb dX8_node_195 (by decide) (fun c_52 => absurd c_52 (by decide)) (fun c_52 => ?_)
        refine lv_aload_n hx hb dX8_node_198 rfl (lv_at hl 2 rfl) ?_
        refine va_get (D := (dC, dI)) (ci := 8) (v := .ref (ad 4)) (C := RX8) (T := TX8) (N := 68) hx hb hts (fun w h => List.mem_cons_of_mem _ (List.mem_append_right _ h)) hown hK hP 0 rfl rfl 4 (by decide) (hts (.fieldLink RX8 19 "PolarTypesModel" "parts" "[I") (List.mem_of_getElem? (i := 6) (by decide +kernel))) (fun _ h9 => h9) rfl dX8_node_199 ?_
        refine lv_bipush (v := 6) hx hb dX8_node_202 (by decide) ?_
        refine lv_aload_n hx hb dX8_node_204 rfl (lv_at hl 2 rfl) ?_
        refine va_get (D := (dC, dI)) (ci := 8) (v := .int 0) (C := RX8) (T := TX8) (N := 68) hx hb hts (fun w h => List.mem_cons_of_mem _ (List.mem_append_right _ h)) hown hK hP 0 rfl rfl 0 (by decide) (hts (.fieldLink RX8 137 "PolarTypesModel" "nodes" "I") (List.mem_of_getElem? (i := 1) (by decide +kernel))) (fun _ h9 => h9) rfl dX8_node_205 ?_
        refine lv_imul hx hb dX8_node_208 ?_
        refine lv_topi (fun f_53 ef_53 => ?_)
        have ef_53c : f_53 = 0 := ef_53.trans (by decide)
        subst ef_53c
        refine lv_iload hx hb dX8_node_209 (lv_at hl 0 rfl) ?_
        refine lv_iadd hx hb dX8_node_211 ?_
        refine lv_topi (fun f_54 ef_54 => ?_)
        have ef_54c : f_54 = 5 := ef_54.trans (by decide)
        subst ef_54c
        refine lv_iload hx hb dX8_node_212 (lv_at hl 0 rfl) ?_
        refine lv_iload hx hb dX8_node_214 (lv_at hl 1 rfl) ?_
        refine lv_icmp_ge (tgt := 244) hx hb dX8_node_216 (by decide) (fun c_55 => ?_) (fun c_55 => absurd (i_le_mono c_3 (by decide)) c_55)
        refine lv_bipush (v := (-9)) hx hb dX8_node_244 (by decide) ?_
        refine va_iast hx hb hK hP hD hS 4 0 rfl rfl (vin _ _ (by decide)) dX8_node_246 (fun H locs hP hD hS => ?_)
        obtain ⟨g_56, eg_56⟩ : ∃ y : Nat → Int32, y = upd g_48 (Int32.toNatClampNeg 5) ((-9)) := ⟨_, rfl⟩
        rw [← eg_56] at hP hD
        have hP : va_P (dC, dI) vwCl [(h0, .inr (8, [.int 0, .ref (ad 1), .ref (ad 2), .ref (ad 3), .ref (ad 4), .ref (ad 5), .ref (ad 6), .int 0, .ref (ad 8), .ref (ad 9), .ref (ad 10), .ref (ad 11), .ref (ad 12), .ref (ad 13), .int 0, .ref (ad 15), .int 0, .ref (ad 17), .ref (ad 18), .ref (ad 19), .ref (ad 20), .ref (ad 21), .int 0, .int 0, .int ((-9)), .int 0, .int 0, .int 0, .int 0, .ref (ad 29), .ref (ad 30), .int 0, .int 0, .int 0, .int 0, .int 0, .ref (ad 36), .ref (ad 37), .ref (ad 38), .int 0, .ref (ad 40), .ref (ad 41), .int 0, .ref (ad 43), .ref (ad 44), .int 0, .ref (ad 46), .int 0, .int 0, .ref (ad 49), .ref (ad 50), .int 0, .ref (ad 52), .ref (ad 53), .ref (ad 54), .ref (ad 55), .int 0, .ref (ad 57), .ref (ad 58), .ref (ad 59), .ref (ad 60), .int ((-9)), .int 0, .int 0, .int 0, .int ((-9)), .int 0, .int 0])), (ad 1, .inl (cI, 120, .inl g_7)), (ad 2, .inl (cI, 120, .inl g_9)), (ad 3, .inl (cI, 120, .inl g_10)), (ad 4, .inl (cI, 720, .inl g_56)), (ad 5, .inl (cI, 720, .inl g_51)), (ad 6, .inl (cI, 120, .inl g_11))] H := hP
        have hD : va_D A [(h0, .inr (8, [.int 0, .ref (ad 1), .ref (ad 2), .ref (ad 3), .ref (ad 4), .ref (ad 5), .ref (ad 6), .int 0, .ref (ad 8), .ref (ad 9), .ref (ad 10), .ref (ad 11), .ref (ad 12), .ref (ad 13), .int 0, .ref (ad 15), .int 0, .ref (ad 17), .ref (ad 18), .ref (ad 19), .ref (ad 20), .ref (ad 21), .int 0, .int 0, .int ((-9)), .int 0, .int 0, .int 0, .int 0, .ref (ad 29), .ref (ad 30), .int 0, .int 0, .int 0, .int 0, .int 0, .ref (ad 36), .ref (ad 37), .ref (ad 38), .int 0, .ref (ad 40), .ref (ad 41), .int 0, .ref (ad 43), .ref (ad 44), .int 0, .ref (ad 46), .int 0, .int 0, .ref (ad 49), .ref (ad 50), .int 0, .ref (ad 52), .ref (ad 53), .ref (ad 54), .ref (ad 55), .int 0, .ref (ad 57), .ref (ad 58), .ref (ad 59), .ref (ad 60), .int ((-9)), .int 0, .int 0, .int 0, .int ((-9)), .int 0, .int 0])), (ad 1, .inl (cI, 120, .inl g_7)), (ad 2, .inl (cI, 120, .inl g_9)), (ad 3, .inl (cI, 120, .inl g_10)), (ad 4, .inl (cI, 720, .inl g_56)), (ad 5, .inl (cI, 720, .inl g_51)), (ad 6, .inl (cI, 120, .inl g_11))] := hD
        refine lv_aload_n hx hb dX8_node_247 rfl (lv_at hl 2 rfl) ?_
        refine va_get (D := (dC, dI)) (ci := 8) (v := .ref (ad 5)) (C := RX8) (T := TX8) (N := 68) hx hb hts (fun w h => List.mem_cons_of_mem _ (List.mem_append_right _ h)) hown hK hP 0 rfl rfl 5 (by decide) (hts (.fieldLink RX8 22 "PolarTypesModel" "labels" "[I") (List.mem_of_getElem? (i := 7) (by decide +kernel))) (fun _ h9 => h9) rfl dX8_node_248 ?_
        refine lv_bipush (v := 6) hx hb dX8_node_251 (by decide) ?_
        refine lv_aload_n hx hb dX8_node_253 rfl (lv_at hl 2 rfl) ?_
        refine va_get (D := (dC, dI)) (ci := 8) (v := .int 0) (C := RX8) (T := TX8) (N := 68) hx hb hts (fun w h => List.mem_cons_of_mem _ (List.mem_append_right _ h)) hown hK hP 0 rfl rfl 0 (by decide) (hts (.fieldLink RX8 137 "PolarTypesModel" "nodes" "I") (List.mem_of_getElem? (i := 1) (by decide +kernel))) (fun _ h9 => h9) rfl dX8_node_254 ?_
        refine lv_imul hx hb dX8_node_257 ?_
        refine lv_topi (fun f_57 ef_57 => ?_)
        have ef_57c : f_57 = 0 := ef_57.trans (by decide)
        subst ef_57c
        refine lv_iload hx hb dX8_node_258 (lv_at hl 0 rfl) ?_
        refine lv_iadd hx hb dX8_node_260 ?_
        refine lv_topi (fun f_58 ef_58 => ?_)
        have ef_58c : f_58 = 5 := ef_58.trans (by decide)
        subst ef_58c
        refine lv_bipush (v := (-9)) hx hb dX8_node_261 (by decide) ?_
        refine va_iast hx hb hK hP hD hS 5 0 rfl rfl (vin _ _ (by decide)) dX8_node_263 (fun H locs hP hD hS => ?_)
        obtain ⟨g_59, eg_59⟩ : ∃ y : Nat → Int32, y = upd g_51 (Int32.toNatClampNeg 5) ((-9)) := ⟨_, rfl⟩
        rw [← eg_59] at hP hD
        have hP : va_P (dC, dI) vwCl [(h0, .inr (8, [.int 0, .ref (ad 1), .ref (ad 2), .ref (ad 3), .ref (ad 4), .ref (ad 5), .ref (ad 6), .int 0, .ref (ad 8), .ref (ad 9), .ref (ad 10), .ref (ad 11), .ref (ad 12), .ref (ad 13), .int 0, .ref (ad 15), .int 0, .ref (ad 17), .ref (ad 18), .ref (ad 19), .ref (ad 20), .ref (ad 21), .int 0, .int 0, .int ((-9)), .int 0, .int 0, .int 0, .int 0, .ref (ad 29), .ref (ad 30), .int 0, .int 0, .int 0, .int 0, .int 0, .ref (ad 36), .ref (ad 37), .ref (ad 38), .int 0, .ref (ad 40), .ref (ad 41), .int 0, .ref (ad 43), .ref (ad 44), .int 0, .ref (ad 46), .int 0, .int 0, .ref (ad 49), .ref (ad 50), .int 0, .ref (ad 52), .ref (ad 53), .ref (ad 54), .ref (ad 55), .int 0, .ref (ad 57), .ref (ad 58), .ref (ad 59), .ref (ad 60), .int ((-9)), .int 0, .int 0, .int 0, .int ((-9)), .int 0, .int 0])), (ad 1, .inl (cI, 120, .inl g_7)), (ad 2, .inl (cI, 120, .inl g_9)), (ad 3, .inl (cI, 120, .inl g_10)), (ad 4, .inl (cI, 720, .inl g_56)), (ad 5, .inl (cI, 720, .inl g_59)), (ad 6, .inl (cI, 120, .inl g_11))] H := hP
        have hD : va_D A [(h0, .inr (8, [.int 0, .ref (ad 1), .ref (ad 2), .ref (ad 3), .ref (ad 4), .ref (ad 5), .ref (ad 6), .int 0, .ref (ad 8), .ref (ad 9), .ref (ad 10), .ref (ad 11), .ref (ad 12), .ref (ad 13), .int 0, .ref (ad 15), .int 0, .ref (ad 17), .ref (ad 18), .ref (ad 19), .ref (ad 20), .ref (ad 21), .int 0, .int 0, .int ((-9)), .int 0, .int 0, .int 0, .int 0, .ref (ad 29), .ref (ad 30), .int 0, .int 0, .int 0, .int 0, .int 0, .ref (ad 36), .ref (ad 37), .ref (ad 38), .int 0, .ref (ad 40), .ref (ad 41), .int 0, .ref (ad 43), .ref (ad 44), .int 0, .ref (ad 46), .int 0, .int 0, .ref (ad 49), .ref (ad 50), .int 0, .ref (ad 52), .ref (ad 53), .ref (ad 54), .ref (ad 55), .int 0, .ref (ad 57), .ref (ad 58), .ref (ad 59), .ref (ad 60), .int ((-9)), .int 0, .int 0, .int 0, .int ((-9)), .int 0, .int 0])), (ad 1, .inl (cI, 120, .inl g_7)), (ad 2, .inl (cI, 120, .inl g_9)), (ad 3, .inl (cI, 120, .inl g_10)), (ad 4, .inl (cI, 720, .inl g_56)), (ad 5, .inl (cI, 720, .inl g_59)), (ad 6, .inl (cI, 120, .inl g_11))] := hD
        refine lv_iinc (v := 6) (lv' := [(7, .int 6), (6, .int (m_parts kd)), (0, .ref h0), (1, .int kd), (2, .int v), (3, .int na), (4, .int nb), (5, .int nc)]) hx hb dX8_node_264 hl (k := 0) rfl (by decide) (by decide) rfl (fun ls hl => ?_)
        refine lv_goto (tgt := 191) hx hb dX8_node_267 (by decide) ?_
        refine lv_iload hx hb dX8_node_191 (lv_at hl 0 rfl) ?_
        refine lv_bipush (v := 6) hx hb dX8_node_193 (by decide) ?_
        refine lv_icmp_ge (tgt := 270) hx hb dX8_node_195 (by decide) (fun c_60 => ?_) (fun c_60 => absurd (by decide) c_60)
        refine lv_iconst (v := 0) hx hb dX8_node_270 (by decide) ?_
        refine lv_istore (lv' := [(7, .int 0), (6, .int (m_parts kd)), (0, .ref h0), (1, .int kd), (2, .int v), (3, .int na), (4, .int nb), (5, .int nc)]) hx hb dX8_node_271 hl (by decide) rfl (fun ls hl => ?_)
        refine lv_iload hx hb dX8_node_273 (lv_at hl 0 rfl) ?_
        refine lv_iload hx hb dX8_node_275 (lv_at hl 1 rfl) ?_
        refine lv_icmp_ge (tgt := 310) hx hb dX8_node_277 (by decide) (fun c_61 => ?_) (fun c_61 => absurd (i_le_mono c_3 (by decide)) c_61)
        refine lv_aload_n hx hb dX8_node_310 rfl (lv_at hl 2 rfl) ?_
        refine lv_dup hx hb dX8_node_311 rfl ?_
        refine va_get (D := (dC, dI)) (ci := 8) (v := .int 0) (C := RX8) (T := TX8) (N := 68) hx hb hts (fun w h => List.mem_cons_of_mem _ (List.mem_append_right _ h)) hown hK hP 0 rfl rfl 0 (by decide) (hts (.fieldLink RX8 137 "PolarTypesModel" "nodes" "I") (List.mem_of_getElem? (i := 1) (by decide +kernel))) (fun _ h9 => h9) rfl dX8_node_312 ?_
        refine lv_iconst (v := 1) hx hb dX8_node_315 (by decide) ?_
        refine lv_iadd hx hb dX8_node_316 ?_
        refine lv_topi (fun f_62 ef_62 => ?_)
        have ef_62c : f_62 = 1 := ef_62.trans (by decide)
        subst ef_62c
        refine va_put (D := (dC, dI)) (ci := 8) (v := .int 1) (ty := .int) (C := RX8) (T := TX8) (N := 68) hx hb hts (fun w h => List.mem_cons_of_mem _ (List.mem_append_right _ h)) tyX8 tyX8_ok nmX8 hown hK hP hD hS 0 rfl rfl 0 (by decide) (hts (.fieldLink RX8 137 "PolarTypesModel" "nodes" "I") (List.mem_of_getElem? (i := 1) (by decide +kernel))) (fun _ h9 => h9) rfl (by decide +kernel) rfl rfl (Nat.le_of_ble_eq_true rfl) dX8_node_317 (fun H locs hP hD hS => ?_)
        have hP : va_P (dC, dI) vwCl [(h0, .inr (8, [.int 1, .ref (ad 1), .ref (ad 2), .ref (ad 3), .ref (ad 4), .ref (ad 5), .ref (ad 6), .int 0, .ref (ad 8), .ref (ad 9), .ref (ad 10), .ref (ad 11), .ref (ad 12), .ref (ad 13), .int 0, .ref (ad 15), .int 0, .ref (ad 17), .ref (ad 18), .ref (ad 19), .ref (ad 20), .ref (ad 21), .int 0, .int 0, .int ((-9)), .int 0, .int 0, .int 0, .int 0, .ref (ad 29), .ref (ad 30), .int 0, .int 0, .int 0, .int 0, .int 0, .ref (ad 36), .ref (ad 37), .ref (ad 38), .int 0, .ref (ad 40), .ref (ad 41), .int 0, .ref (ad 43), .ref (ad 44), .int 0, .ref (ad 46), .int 0, .int 0, .ref (ad 49), .ref (ad 50), .int 0, .ref (ad 52), .ref (ad 53), .ref (ad 54), .ref (ad 55), .int 0, .ref (ad 57), .ref (ad 58), .ref (ad 59), .ref (ad 60), .int ((-9)), .int 0, .int 0, .int 0, .int ((-9)), .int 0, .int 0])), (ad 1, .inl (cI, 120, .inl g_7)), (ad 2, .inl (cI, 120, .inl g_9)), (ad 3, .inl (cI, 120, .inl g_10)), (ad 4, .inl (cI, 720, .inl g_56)), (ad 5, .inl (cI, 720, .inl g_59)), (ad 6, .inl (cI, 120, .inl g_11))] H := hP
        have hD : va_D A [(h0, .inr (8, [.int 1, .ref (ad 1), .ref (ad 2), .ref (ad 3), .ref (ad 4), .ref (ad 5), .ref (ad 6), .int 0, .ref (ad 8), .ref (ad 9), .ref (ad 10), .ref (ad 11), .ref (ad 12), .ref (ad 13), .int 0, .ref (ad 15), .int 0, .ref (ad 17), .ref (ad 18), .ref (ad 19), .ref (ad 20), .ref (ad 21), .int 0, .int 0, .int ((-9)), .int 0, .int 0, .int 0, .int 0, .ref (ad 29), .ref (ad 30), .int 0, .int 0, .int 0, .int 0, .int 0, .ref (ad 36), .ref (ad 37), .ref (ad 38), .int 0, .ref (ad 40), .ref (ad 41), .int 0, .ref (ad 43), .ref (ad 44), .int 0, .ref (ad 46), .int 0, .int 0, .ref (ad 49), .ref (ad 50), .int 0, .ref (ad 52), .ref (ad 53), .ref (ad 54), .ref (ad 55), .int 0, .ref (ad 57), .ref (ad 58), .ref (ad 59), .ref (ad 60), .int ((-9)), .int 0, .int 0, .int 0, .int ((-9)), .int 0, .int 0])), (ad 1, .inl (cI, 120, .inl g_7)), (ad 2, .inl (cI, 120, .inl g_9)), (ad 3, .inl (cI, 120, .inl g_10)), (ad 4, .inl (cI, 720, .inl g_56)), (ad 5, .inl (cI, 720, .inl g_59)), (ad 6, .inl (cI, 120, .inl g_11))] := hD
        refine lv_aload_n hx hb dX8_node_320 rfl (lv_at hl 2 rfl) ?_
        refine va_get (D := (dC, dI)) (ci := 8) (v := .int 1) (C := RX8) (T := TX8) (N := 68) hx hb hts (fun w h => List.mem_cons_of_mem _ (List.mem_append_right _ h)) hown hK hP 0 rfl rfl 0 (by decide) (hts (.fieldLink RX8 137 "PolarTypesModel" "nodes" "I") (List.mem_of_getElem? (i := 1) (by decide +kernel))) (fun _ h9 => h9) rfl dX8_node_321 ?_
        refine lv_iconst (v := 1) hx hb dX8_node_324 (by decide) ?_
        refine lv_isub hx hb dX8_node_325 ?_
        refine lv_topi (fun f_63 ef_63 => ?_)
        have ef_63c : f_63 = 0 := ef_63.trans (by decide)
        subst ef_63c
        have hP9 := hP.sub (ws' := []) [] rfl
        have hD9 := hD.sub (ws' := []) [] (by decide) rfl
        refine W.widen (k := 0) (n := 0) (Nat.le_of_ble_eq_true rfl) (Nat.le_of_ble_eq_true rfl) ?_
        exact W.iret (v := 0) hx hb hr (fun t ht hW => ⟨⟨0, (), rfl, (by rw [cut_1_0]; simp only [m_end, if_pos c_3]), by rw [ht]; exact hP9, va_K.moved hW.alike hK, hD9⟩, hS.F ht⟩) hS.2.2 dX8_node_326
      · intro cut_8
        refine lv_if_eq (tgt := 159) hx hb dX8_node_144 (by decide) (fun c_64 => ?_) (fun c_64 => ?_)
        · skip
          refine lv_iload_n hx hb dX8_node_159 rfl (lv_at hl 3 rfl) ?_
          refine lv_goto (tgt := 165) hx hb dX8_node_160 (by decide) ?_
          exact cut_8 _ _ _ _ _ ⟨ls, v, rfl, rfl, hP.sub [0, 1, 2, 3, 4, 5, 6] rfl, hD.sub [0, 1, 2, 3, 4, 5, 6] (by decide) rfl, hS, lv_sub hl [0, 1, 2, 3, 4, 5, 6] rfl, rfl⟩
        · skip
          refine lv_iload_n hx hb dX8_node_147 rfl (lv_at hl 2 rfl) ?_
          refine lv_iconst (v := 1) hx hb dX8_node_148 (by decide) ?_
          refine lv_icmp_eq (tgt := 159) hx hb dX8_node_149 (by decide) (fun c_65 => ?_) (fun c_65 => ?_)
          · skip
            refine lv_iload_n hx hb dX8_node_159 rfl (lv_at hl 3 rfl) ?_
            refine lv_goto (tgt := 165) hx hb dX8_node_160 (by decide) ?_
            exact cut_8 _ _ _ _ _ ⟨ls, v, rfl, rfl, hP.sub [0, 1, 2, 3, 4, 5, 6] rfl, hD.sub [0, 1, 2, 3, 4, 5, 6] (by decide) rfl, hS, lv_sub hl [0, 1, 2, 3, 4, 5, 6] rfl, rfl⟩
          · skip
            refine lv_iload_n hx hb dX8_node_152 rfl (lv_at hl 2 rfl) ?_
            have hPc := hP.sub (ws' := []) [] rfl
            have hDc := hD.sub (ws' := []) [] (by decide) rfl
            have hFc := va_free (wc := []) hD hS hA [] rfl
            refine va_calli (va_runS (As := [.int kd]) (rest := [.int 0, .ref (ad 2)]) ⟨hx, hb, hml, hown, hts⟩ (c_m_hasName l dC dI cI kd H.size) (va_cwS 1 hts gX8_node_X8_hasName rfl rfl rfl (by decide +kernel) ⟨Nat.le_of_ble_eq_true rfl, Nat.le_of_ble_eq_true rfl⟩) ⟨fun a U g mk q => by obtain ⟨q0, q1, qP, qK, qD⟩ := q; exact ⟨q0, q1, qP, va_K.moved (u := U) (U := U.calling g mk a) (Vm.Alike.refl U.vm) qK, qD⟩, fun U hU hW => ⟨rfl, by rw [hU], by rw [hU]; exact hPc, va_K.moved hW.alike hK, hDc.weaken (fun _ _ _ _ => trivial)⟩⟩ rfl rfl hl.1 rfl (lv_room (Nat.le_of_ble_eq_true rfl)) dX8_node_153 ⟨Nat.le_of_ble_eq_true rfl, Nat.le_of_ble_eq_true rfl⟩) hS (fun q _ h => hFc q h) hFc (fun r_66 u t H1 locs ht hvm hw hB hz1 hk1 hS => ?_)
            obtain ⟨hP1, hK1, hD1⟩ := hB
            rw [ht] at hP1
            obtain ⟨hP, hD⟩ := va_join (wr := [(h0, .inr (8, [.int 0, .ref (ad 1), .ref (ad 2), .ref (ad 3), .ref (ad 4), .ref (ad 5), .ref (ad 6), .int 0, .ref (ad 8), .ref (ad 9), .ref (ad 10), .ref (ad 11), .ref (ad 12), .ref (ad 13), .int 0, .ref (ad 15), .int 0, .ref (ad 17), .ref (ad 18), .ref (ad 19), .ref (ad 20), .ref (ad 21), .int 0, .int 0, .int ((-9)), .int 0, .int 0, .int 0, .int 0, .ref (ad 29), .ref (ad 30), .int 0, .int 0, .int 0, .int 0, .int 0, .ref (ad 36), .ref (ad 37), .ref (ad 38), .int 0, .ref (ad 40), .ref (ad 41), .int 0, .ref (ad 43), .ref (ad 44), .int 0, .ref (ad 46), .int 0, .int 0, .ref (ad 49), .ref (ad 50), .int 0, .ref (ad 52), .ref (ad 53), .ref (ad 54), .ref (ad 55), .int 0, .ref (ad 57), .ref (ad 58), .ref (ad 59), .ref (ad 60), .int ((-9)), .int 0, .int 0, .int 0, .int ((-9)), .int 0, .int 0])), (ad 1, .inl (cI, 120, .inl g_7)), (ad 2, .inl (cI, 120, .inl (fun _ => 0))), (ad 3, .inl (cI, 120, .inl (fun _ => 0))), (ad 4, .inl (cI, 720, .inl (fun _ => 0))), (ad 5, .inl (cI, 720, .inl (fun _ => 0))), (ad 6, .inl (cI, 120, .inl (fun _ => 0)))]) (w1 := []) hP hD [] [0, 1, 2, 3, 4, 5, 6] rfl rfl (by decide) (by decide) hk1 hFc hP1 hD1
            generalize H1 = H at hP hS ⊢
            obtain rfl : r_66 = p_hasL kd := hw
            have hP : va_P (dC, dI) vwCl [(h0, .inr (8, [.int 0, .ref (ad 1), .ref (ad 2), .ref (ad 3), .ref (ad 4), .ref (ad 5), .ref (ad 6), .int 0, .ref (ad 8), .ref (ad 9), .ref (ad 10), .ref (ad 11), .ref (ad 12), .ref (ad 13), .int 0, .ref (ad 15), .int 0, .ref (ad 17), .ref (ad 18), .ref (ad 19), .ref (ad 20), .ref (ad 21), .int 0, .int 0, .int ((-9)), .int 0, .int 0, .int 0, .int 0, .ref (ad 29), .ref (ad 30), .int 0, .int 0, .int 0, .int 0, .int 0, .ref (ad 36), .ref (ad 37), .ref (ad 38), .int 0, .ref (ad 40), .ref (ad 41), .int 0, .ref (ad 43), .ref (ad 44), .int 0, .ref (ad 46), .int 0, .int 0, .ref (ad 49), .ref (ad 50), .int 0, .ref (ad 52), .ref (ad 53), .ref (ad 54), .ref (ad 55), .int 0, .ref (ad 57), .ref (ad 58), .ref (ad 59), .ref (ad 60), .int ((-9)), .int 0, .int 0, .int 0, .int ((-9)), .int 0, .int 0])), (ad 1, .inl (cI, 120, .inl g_7)), (ad 2, .inl (cI, 120, .inl (fun _ => 0))), (ad 3, .inl (cI, 120, .inl (fun _ => 0))), (ad 4, .inl (cI, 720, .inl (fun _ => 0))), (ad 5, .inl (cI, 720, .inl (fun _ => 0))), (ad 6, .inl (cI, 120, .inl (fun _ => 0)))] H := hP
            have hD : va_D A [(h0, .inr (8, [.int 0, .ref (ad 1), .ref (ad 2), .ref (ad 3), .ref (ad 4), .ref (ad 5), .ref (ad 6), .int 0, .ref (ad 8), .ref (ad 9), .ref (ad 10), .ref (ad 11), .ref (ad 12), .ref (ad 13), .int 0, .ref (ad 15), .int 0, .ref (ad 17), .ref (ad 18), .ref (ad 19), .ref (ad 20), .ref (ad 21), .int 0, .int 0, .int ((-9)), .int 0, .int 0, .int 0, .int 0, .ref (ad 29), .ref (ad 30), .int 0, .int 0, .int 0, .int 0, .int 0, .ref (ad 36), .ref (ad 37), .ref (ad 38), .int 0, .ref (ad 40), .ref (ad 41), .int 0, .ref (ad 43), .ref (ad 44), .int 0, .ref (ad 46), .int 0, .int 0, .ref (ad 49), .ref (ad 50), .int 0, .ref (ad 52), .ref (ad 53), .ref (ad 54), .ref (ad 55), .int 0, .ref (ad 57), .ref (ad 58), .ref (ad 59), .ref (ad 60), .int ((-9)), .int 0, .int 0, .int 0, .int ((-9)), .int 0, .int 0])), (ad 1, .inl (cI, 120, .inl g_7)), (ad 2, .inl (cI, 120, .inl (fun _ => 0))), (ad 3, .inl (cI, 120, .inl (fun _ => 0))), (ad 4, .inl (cI, 720, .inl (fun _ => 0))), (ad 5, .inl (cI, 720, .inl (fun _ => 0))), (ad 6, .inl (cI, 120, .inl (fun _ => 0)))] := hD
            refine W.widen (k := 0) (n := 0) (Nat.le_of_ble_eq_true rfl) (Nat.le_of_ble_eq_true rfl) ?_
            refine lv_if_eq (tgt := 163) hx hb dX8_node_156 (by decide) (fun c_67 => ?_) (fun c_67 => ?_)
            · skip
              refine lv_bipush (v := (-9)) hx hb dX8_node_163 (by decide) ?_
              exact cut_8 _ _ _ _ _ ⟨ls, (-9), rfl, rfl, hP.sub [0, 1, 2, 3, 4, 5, 6] rfl, hD.sub [0, 1, 2, 3, 4, 5, 6] (by decide) rfl, hS, lv_sub hl [0, 1, 2, 3, 4, 5, 6] rfl, rfl⟩
            · skip
              refine lv_iload_n hx hb dX8_node_159 rfl (lv_at hl 3 rfl) ?_
              refine lv_goto (tgt := 165) hx hb dX8_node_160 (by decide) ?_
              exact cut_8 _ _ _ _ _ ⟨ls, v, rfl, rfl, hP.sub [0, 1, 2, 3, 4, 5, 6] rfl, hD.sub [0, 1, 2, 3, 4, 5, 6] (by decide) rfl, hS, lv_sub hl [0, 1, 2, 3, 4, 5, 6] rfl, rfl⟩
    · skip
      refine lv_aload_n hx hb dX8_node_54 rfl (lv_at hl 1 rfl) ?_
      refine lv_iload_n hx hb dX8_node_55 rfl (lv_at hl 4 rfl) ?_
      have hPc := hP.sub (ws' := [(h0, .inr (8, [.int 0, .ref (ad 1), .ref (ad 2), .ref (ad 3), .ref (ad 4), .ref (ad 5), .ref (ad 6), .int 0, .ref (ad 8), .ref (ad 9), .ref (ad 10), .ref (ad 11), .ref (ad 12), .ref (ad 13), .int 0, .ref (ad 15), .int 0, .ref (ad 17), .ref (ad 18), .ref (ad 19), .ref (ad 20), .ref (ad 21), .int 0, .int 0, .int ((-9)), .int 0, .int 0, .int 0, .int 0, .ref (ad 29), .ref (ad 30), .int 0, .int 0, .int 0, .int 0, .int 0, .ref (ad 36), .ref (ad 37), .ref (ad 38), .int 0, .ref (ad 40), .ref (ad 41), .int 0, .ref (ad 43), .ref (ad 44), .int 0, .ref (ad 46), .int 0, .int 0, .ref (ad 49), .ref (ad 50), .int 0, .ref (ad 52), .ref (ad 53), .ref (ad 54), .ref (ad 55), .int 0, .ref (ad 57), .ref (ad 58), .ref (ad 59), .ref (ad 60), .int ((-9)), .int 0, .int 0, .int 0, .int ((-9)), .int 0, .int 0]))]) [0] rfl
      have hDc := hD.sub (ws' := [(h0, .inr (8, [.int 0, .ref (ad 1), .ref (ad 2), .ref (ad 3), .ref (ad 4), .ref (ad 5), .ref (ad 6), .int 0, .ref (ad 8), .ref (ad 9), .ref (ad 10), .ref (ad 11), .ref (ad 12), .ref (ad 13), .int 0, .ref (ad 15), .int 0, .ref (ad 17), .ref (ad 18), .ref (ad 19), .ref (ad 20), .ref (ad 21), .int 0, .int 0, .int ((-9)), .int 0, .int 0, .int 0, .int 0, .ref (ad 29), .ref (ad 30), .int 0, .int 0, .int 0, .int 0, .int 0, .ref (ad 36), .ref (ad 37), .ref (ad 38), .int 0, .ref (ad 40), .ref (ad 41), .int 0, .ref (ad 43), .ref (ad 44), .int 0, .ref (ad 46), .int 0, .int 0, .ref (ad 49), .ref (ad 50), .int 0, .ref (ad 52), .ref (ad 53), .ref (ad 54), .ref (ad 55), .int 0, .ref (ad 57), .ref (ad 58), .ref (ad 59), .ref (ad 60), .int ((-9)), .int 0, .int 0, .int 0, .int ((-9)), .int 0, .int 0]))]) [0] (by decide) rfl
      have hFc := va_free (wc := [(h0, .inr (8, [.int 0, .ref (ad 1), .ref (ad 2), .ref (ad 3), .ref (ad 4), .ref (ad 5), .ref (ad 6), .int 0, .ref (ad 8), .ref (ad 9), .ref (ad 10), .ref (ad 11), .ref (ad 12), .ref (ad 13), .int 0, .ref (ad 15), .int 0, .ref (ad 17), .ref (ad 18), .ref (ad 19), .ref (ad 20), .ref (ad 21), .int 0, .int 0, .int ((-9)), .int 0, .int 0, .int 0, .int 0, .ref (ad 29), .ref (ad 30), .int 0, .int 0, .int 0, .int 0, .int 0, .ref (ad 36), .ref (ad 37), .ref (ad 38), .int 0, .ref (ad 40), .ref (ad 41), .int 0, .ref (ad 43), .ref (ad 44), .int 0, .ref (ad 46), .int 0, .int 0, .ref (ad 49), .ref (ad 50), .int 0, .ref (ad 52), .ref (ad 53), .ref (ad 54), .ref (ad 55), .int 0, .ref (ad 57), .ref (ad 58), .ref (ad 59), .ref (ad 60), .int ((-9)), .int 0, .int 0, .int 0, .int ((-9)), .int 0, .int 0]))]) hD hS hA [0] rfl
      refine va_calli (va_runV (As := [.int na]) (rest := []) ⟨hx, hb, hml, hown, hts⟩ (c_m_isFree0 l dC dI cI h0 ad na H.size) (cwV 1 hts gX8_node_X8_isFree rfl rfl rfl (by decide +kernel) ⟨Nat.le_of_ble_eq_true rfl, Nat.le_of_ble_eq_true rfl⟩) ⟨fun a U g mk q => by obtain ⟨q0, q1, qP, qK, qD⟩ := q; exact ⟨q0, q1, qP, va_K.moved (u := U) (U := U.calling g mk a) (Vm.Alike.refl U.vm) qK, qD⟩, va_recv hK hPc (ci := 8) (q0 := 0) rfl rfl, fun U hU hW => ⟨rfl, by rw [hU], by rw [hU]; exact hPc, va_K.moved hW.alike hK, hDc.weaken (fun _ _ _ _ => trivial)⟩⟩ rfl rfl hl.1 rfl (lv_room (Nat.le_of_ble_eq_true rfl)) dX8_node_56 ⟨Nat.le_of_ble_eq_true rfl, Nat.le_of_ble_eq_true rfl⟩) hS (fun q _ h => hFc q h) hFc (fun r_68 u t H1 locs ht hvm hw hB hz1 hk1 hS => ?_)
      obtain ⟨hP1, hK1, hD1⟩ := hB
      rw [ht] at hP1
      obtain ⟨hP, hD⟩ := va_join (wr := [(ad 1, .inl (cI, 120, .inl (fun _ => 0))), (ad 2, .inl (cI, 120, .inl (fun _ => 0))), (ad 3, .inl (cI, 120, .inl (fun _ => 0))), (ad 4, .inl (cI, 720, .inl (fun _ => 0))), (ad 5, .inl (cI, 720, .inl (fun _ => 0))), (ad 6, .inl (cI, 120, .inl (fun _ => 0)))]) (w1 := [(h0, .inr (8, [.int 0, .ref (ad 1), .ref (ad 2), .ref (ad 3), .ref (ad 4), .ref (ad 5), .ref (ad 6), .int 0, .ref (ad 8), .ref (ad 9), .ref (ad 10), .ref (ad 11), .ref (ad 12), .ref (ad 13), .int 0, .ref (ad 15), .int 0, .ref (ad 17), .ref (ad 18), .ref (ad 19), .ref (ad 20), .ref (ad 21), .int 0, .int 0, .int ((-9)), .int 0, .int 0, .int 0, .int 0, .ref (ad 29), .ref (ad 30), .int 0, .int 0, .int 0, .int 0, .int 0, .ref (ad 36), .ref (ad 37), .ref (ad 38), .int 0, .ref (ad 40), .ref (ad 41), .int 0, .ref (ad 43), .ref (ad 44), .int 0, .ref (ad 46), .int 0, .int 0, .ref (ad 49), .ref (ad 50), .int 0, .ref (ad 52), .ref (ad 53), .ref (ad 54), .ref (ad 55), .int 0, .ref (ad 57), .ref (ad 58), .ref (ad 59), .ref (ad 60), .int ((-9)), .int 0, .int 0, .int 0, .int ((-9)), .int 0, .int 0]))]) hP hD [0] [1, 2, 3, 4, 5, 6] rfl rfl (by decide) (by decide) hk1 hFc hP1 hD1
      generalize H1 = H at hP hS ⊢
      obtain rfl : r_68 = 0 := hw
      have hP : va_P (dC, dI) vwCl [(ad 1, .inl (cI, 120, .inl (fun _ => 0))), (ad 2, .inl (cI, 120, .inl (fun _ => 0))), (ad 3, .inl (cI, 120, .inl (fun _ => 0))), (ad 4, .inl (cI, 720, .inl (fun _ => 0))), (ad 5, .inl (cI, 720, .inl (fun _ => 0))), (ad 6, .inl (cI, 120, .inl (fun _ => 0))), (h0, .inr (8, [.int 0, .ref (ad 1), .ref (ad 2), .ref (ad 3), .ref (ad 4), .ref (ad 5), .ref (ad 6), .int 0, .ref (ad 8), .ref (ad 9), .ref (ad 10), .ref (ad 11), .ref (ad 12), .ref (ad 13), .int 0, .ref (ad 15), .int 0, .ref (ad 17), .ref (ad 18), .ref (ad 19), .ref (ad 20), .ref (ad 21), .int 0, .int 0, .int ((-9)), .int 0, .int 0, .int 0, .int 0, .ref (ad 29), .ref (ad 30), .int 0, .int 0, .int 0, .int 0, .int 0, .ref (ad 36), .ref (ad 37), .ref (ad 38), .int 0, .ref (ad 40), .ref (ad 41), .int 0, .ref (ad 43), .ref (ad 44), .int 0, .ref (ad 46), .int 0, .int 0, .ref (ad 49), .ref (ad 50), .int 0, .ref (ad 52), .ref (ad 53), .ref (ad 54), .ref (ad 55), .int 0, .ref (ad 57), .ref (ad 58), .ref (ad 59), .ref (ad 60), .int ((-9)), .int 0, .int 0, .int 0, .int ((-9)), .int 0, .int 0]))] H := hP
      have hD : va_D A [(ad 1, .inl (cI, 120, .inl (fun _ => 0))), (ad 2, .inl (cI, 120, .inl (fun _ => 0))), (ad 3, .inl (cI, 120, .inl (fun _ => 0))), (ad 4, .inl (cI, 720, .inl (fun _ => 0))), (ad 5, .inl (cI, 720, .inl (fun _ => 0))), (ad 6, .inl (cI, 120, .inl (fun _ => 0))), (h0, .inr (8, [.int 0, .ref (ad 1), .ref (ad 2), .ref (ad 3), .ref (ad 4), .ref (ad 5), .ref (ad 6), .int 0, .ref (ad 8), .ref (ad 9), .ref (ad 10), .ref (ad 11), .ref (ad 12), .ref (ad 13), .int 0, .ref (ad 15), .int 0, .ref (ad 17), .ref (ad 18), .ref (ad 19), .ref (ad 20), .ref (ad 21), .int 0, .int 0, .int ((-9)), .int 0, .int 0, .int 0, .int 0, .ref (ad 29), .ref (ad 30), .int 0, .int 0, .int 0, .int 0, .int 0, .ref (ad 36), .ref (ad 37), .ref (ad 38), .int 0, .ref (ad 40), .ref (ad 41), .int 0, .ref (ad 43), .ref (ad 44), .int 0, .ref (ad 46), .int 0, .int 0, .ref (ad 49), .ref (ad 50), .int 0, .ref (ad 52), .ref (ad 53), .ref (ad 54), .ref (ad 55), .int 0, .ref (ad 57), .ref (ad 58), .ref (ad 59), .ref (ad 60), .int ((-9)), .int 0, .int 0, .int 0, .int ((-9)), .int 0, .int 0]))] := hD
      refine W.widen (k := 0) (n := 0) (Nat.le_of_ble_eq_true rfl) (Nat.le_of_ble_eq_true rfl) ?_
      refine lv_if_eq (tgt := 111) hx hb dX8_node_59 (by decide) (fun c_69 => ?_) (fun c_69 => absurd (by decide) c_69)
      refine lv_iconst (v := (-1)) hx hb dX8_node_111 (by decide) ?_
      have hP9 := hP.sub (ws' := []) [] rfl
      have hD9 := hD.sub (ws' := []) [] (by decide) rfl
      refine W.widen (k := 0) (n := 0) (Nat.le_of_ble_eq_true rfl) (Nat.le_of_ble_eq_true rfl) ?_
      exact W.iret (v := (-1)) hx hb hr (fun t ht hW => ⟨⟨(-1), (), rfl, (by rw [cut_1_0]; simp only [m_end, if_neg c_3]), by rw [ht]; exact hP9, va_K.moved hW.alike hK, hD9⟩, hS.F ht⟩) hS.2.2 dX8_node_112
  · intro cut_1
    refine lv_iload_n hx hb dX8_node_0 rfl (lv_at hl 1 rfl) ?_
    refine lv_iconst (v := 0) hx hb dX8_node_1 (by decide) ?_
    refine lv_bipush (v := 11) hx hb dX8_node_2 (by decide) ?_
    have hPc := hP.sub (ws' := []) [] rfl
    have hDc := hD.sub (ws' := []) [] (by decide) rfl
    have hFc := va_free (wc := []) hD hS hA [] rfl
    refine va_calli (va_runS (As := [.int kd, .int 0, .int 11]) (rest := []) ⟨hx, hb, hml, hown, hts⟩ (c_m_in l dC dI cI kd 0 11 H.size) (va_cwS 3 hts gX8_node_X8_in rfl rfl rfl (by decide +kernel) ⟨Nat.le_of_ble_eq_true rfl, Nat.le_of_ble_eq_true rfl⟩) ⟨fun a U g mk q => by obtain ⟨q0, q1, qP, qK, qD⟩ := q; exact ⟨q0, q1, qP, va_K.moved (u := U) (U := U.calling g mk a) (Vm.Alike.refl U.vm) qK, qD⟩, fun U hU hW => ⟨rfl, by rw [hU], by rw [hU]; exact hPc, va_K.moved hW.alike hK, hDc.weaken (fun _ _ _ _ => trivial)⟩⟩ rfl rfl hl.1 rfl (lv_room (Nat.le_of_ble_eq_true rfl)) dX8_node_4 ⟨Nat.le_of_ble_eq_true rfl, Nat.le_of_ble_eq_true rfl⟩) hS (fun q _ h => hFc q h) hFc (fun r_70 u t H1 locs ht hvm hw hB hz1 hk1 hS => ?_)
    obtain ⟨hP1, hK1, hD1⟩ := hB
    rw [ht] at hP1
    obtain ⟨hP, hD⟩ := va_join (wr := [(h0, .inr (8, [.int 0, .ref (ad 1), .ref (ad 2), .ref (ad 3), .ref (ad 4), .ref (ad 5), .ref (ad 6), .int 0, .ref (ad 8), .ref (ad 9), .ref (ad 10), .ref (ad 11), .ref (ad 12), .ref (ad 13), .int 0, .ref (ad 15), .int 0, .ref (ad 17), .ref (ad 18), .ref (ad 19), .ref (ad 20), .ref (ad 21), .int 0, .int 0, .int ((-9)), .int 0, .int 0, .int 0, .int 0, .ref (ad 29), .ref (ad 30), .int 0, .int 0, .int 0, .int 0, .int 0, .ref (ad 36), .ref (ad 37), .ref (ad 38), .int 0, .ref (ad 40), .ref (ad 41), .int 0, .ref (ad 43), .ref (ad 44), .int 0, .ref (ad 46), .int 0, .int 0, .ref (ad 49), .ref (ad 50), .int 0, .ref (ad 52), .ref (ad 53), .ref (ad 54), .ref (ad 55), .int 0, .ref (ad 57), .ref (ad 58), .ref (ad 59), .ref (ad 60), .int ((-9)), .int 0, .int 0, .int 0, .int ((-9)), .int 0, .int 0])), (ad 1, .inl (cI, 120, .inl (fun _ => 0))), (ad 2, .inl (cI, 120, .inl (fun _ => 0))), (ad 3, .inl (cI, 120, .inl (fun _ => 0))), (ad 4, .inl (cI, 720, .inl (fun _ => 0))), (ad 5, .inl (cI, 720, .inl (fun _ => 0))), (ad 6, .inl (cI, 120, .inl (fun _ => 0)))]) (w1 := []) hP hD [] [0, 1, 2, 3, 4, 5, 6] rfl rfl (by decide) (by decide) hk1 hFc hP1 hD1
    generalize H1 = H at hP hS ⊢
    obtain rfl : r_70 = p_in kd 0 11 := hw
    have hP : va_P (dC, dI) vwCl [(h0, .inr (8, [.int 0, .ref (ad 1), .ref (ad 2), .ref (ad 3), .ref (ad 4), .ref (ad 5), .ref (ad 6), .int 0, .ref (ad 8), .ref (ad 9), .ref (ad 10), .ref (ad 11), .ref (ad 12), .ref (ad 13), .int 0, .ref (ad 15), .int 0, .ref (ad 17), .ref (ad 18), .ref (ad 19), .ref (ad 20), .ref (ad 21), .int 0, .int 0, .int ((-9)), .int 0, .int 0, .int 0, .int 0, .ref (ad 29), .ref (ad 30), .int 0, .int 0, .int 0, .int 0, .int 0, .ref (ad 36), .ref (ad 37), .ref (ad 38), .int 0, .ref (ad 40), .ref (ad 41), .int 0, .ref (ad 43), .ref (ad 44), .int 0, .ref (ad 46), .int 0, .int 0, .ref (ad 49), .ref (ad 50), .int 0, .ref (ad 52), .ref (ad 53), .ref (ad 54), .ref (ad 55), .int 0, .ref (ad 57), .ref (ad 58), .ref (ad 59), .ref (ad 60), .int ((-9)), .int 0, .int 0, .int 0, .int ((-9)), .int 0, .int 0])), (ad 1, .inl (cI, 120, .inl (fun _ => 0))), (ad 2, .inl (cI, 120, .inl (fun _ => 0))), (ad 3, .inl (cI, 120, .inl (fun _ => 0))), (ad 4, .inl (cI, 720, .inl (fun _ => 0))), (ad 5, .inl (cI, 720, .inl (fun _ => 0))), (ad 6, .inl (cI, 120, .inl (fun _ => 0)))] H := hP
    have hD : va_D A [(h0, .inr (8, [.int 0, .ref (ad 1), .ref (ad 2), .ref (ad 3), .ref (ad 4), .ref (ad 5), .ref (ad 6), .int 0, .ref (ad 8), .ref (ad 9), .ref (ad 10), .ref (ad 11), .ref (ad 12), .ref (ad 13), .int 0, .ref (ad 15), .int 0, .ref (ad 17), .ref (ad 18), .ref (ad 19), .ref (ad 20), .ref (ad 21), .int 0, .int 0, .int ((-9)), .int 0, .int 0, .int 0, .int 0, .ref (ad 29), .ref (ad 30), .int 0, .int 0, .int 0, .int 0, .int 0, .ref (ad 36), .ref (ad 37), .ref (ad 38), .int 0, .ref (ad 40), .ref (ad 41), .int 0, .ref (ad 43), .ref (ad 44), .int 0, .ref (ad 46), .int 0, .int 0, .ref (ad 49), .ref (ad 50), .int 0, .ref (ad 52), .ref (ad 53), .ref (ad 54), .ref (ad 55), .int 0, .ref (ad 57), .ref (ad 58), .ref (ad 59), .ref (ad 60), .int ((-9)), .int 0, .int 0, .int 0, .int ((-9)), .int 0, .int 0])), (ad 1, .inl (cI, 120, .inl (fun _ => 0))), (ad 2, .inl (cI, 120, .inl (fun _ => 0))), (ad 3, .inl (cI, 120, .inl (fun _ => 0))), (ad 4, .inl (cI, 720, .inl (fun _ => 0))), (ad 5, .inl (cI, 720, .inl (fun _ => 0))), (ad 6, .inl (cI, 120, .inl (fun _ => 0)))] := hD
    refine W.widen (k := 0) (n := 0) (Nat.le_of_ble_eq_true rfl) (Nat.le_of_ble_eq_true rfl) ?_
    refine lv_if_eq (tgt := 41) hx hb dX8_node_7 (by decide) (fun c_71 => ?_) (fun c_71 => ?_)
    · skip
      refine lv_iconst (v := (-1)) hx hb dX8_node_41 (by decide) ?_
      have hP9 := hP.sub (ws' := []) [] rfl
      have hD9 := hD.sub (ws' := []) [] (by decide) rfl
      refine W.widen (k := 0) (n := 0) (Nat.le_of_ble_eq_true rfl) (Nat.le_of_ble_eq_true rfl) ?_
      exact W.iret (v := (-1)) hx hb hr (fun t ht hW => ⟨⟨(-1), (), rfl, (by simp only [m_node, if_pos c_71]), by rw [ht]; exact hP9, va_K.moved hW.alike hK, hD9⟩, hS.F ht⟩) hS.2.2 dX8_node_42
    · skip
      refine lv_iload_n hx hb dX8_node_10 rfl (lv_at hl 1 rfl) ?_
      refine lv_iconst (v := 1) hx hb dX8_node_11 (by decide) ?_
      refine lv_icmp_ne (tgt := 24) hx hb dX8_node_12 (by decide) (fun c_72 => ?_) (fun c_72 => ?_)
      · skip
        refine lv_iload_n hx hb dX8_node_24 rfl (lv_at hl 1 rfl) ?_
        have hPc := hP.sub (ws' := []) [] rfl
        have hDc := hD.sub (ws' := []) [] (by decide) rfl
        have hFc := va_free (wc := []) hD hS hA [] rfl
        refine va_calli (va_runS (As := [.int kd]) (rest := []) ⟨hx, hb, hml, hown, hts⟩ (c_m_hasName l dC dI cI kd H.size) (va_cwS 1 hts gX8_node_X8_hasName rfl rfl rfl (by decide +kernel) ⟨Nat.le_of_ble_eq_true rfl, Nat.le_of_ble_eq_true rfl⟩) ⟨fun a U g mk q => by obtain ⟨q0, q1, qP, qK, qD⟩ := q; exact ⟨q0, q1, qP, va_K.moved (u := U) (U := U.calling g mk a) (Vm.Alike.refl U.vm) qK, qD⟩, fun U hU hW => ⟨rfl, by rw [hU], by rw [hU]; exact hPc, va_K.moved hW.alike hK, hDc.weaken (fun _ _ _ _ => trivial)⟩⟩ rfl rfl hl.1 rfl (lv_room (Nat.le_of_ble_eq_true rfl)) dX8_node_25 ⟨Nat.le_of_ble_eq_true rfl, Nat.le_of_ble_eq_true rfl⟩) hS (fun q _ h => hFc q h) hFc (fun r_73 u t H1 locs ht hvm hw hB hz1 hk1 hS => ?_)
        obtain ⟨hP1, hK1, hD1⟩ := hB
        rw [ht] at hP1
        obtain ⟨hP, hD⟩ := va_join (wr := [(h0, .inr (8, [.int 0, .ref (ad 1), .ref (ad 2), .ref (ad 3), .ref (ad 4), .ref (ad 5), .ref (ad 6), .int 0, .ref (ad 8), .ref (ad 9), .ref (ad 10), .ref (ad 11), .ref (ad 12), .ref (ad 13), .int 0, .ref (ad 15), .int 0, .ref (ad 17), .ref (ad 18), .ref (ad 19), .ref (ad 20), .ref (ad 21), .int 0, .int 0, .int ((-9)), .int 0, .int 0, .int 0, .int 0, .ref (ad 29), .ref (ad 30), .int 0, .int 0, .int 0, .int 0, .int 0, .ref (ad 36), .ref (ad 37), .ref (ad 38), .int 0, .ref (ad 40), .ref (ad 41), .int 0, .ref (ad 43), .ref (ad 44), .int 0, .ref (ad 46), .int 0, .int 0, .ref (ad 49), .ref (ad 50), .int 0, .ref (ad 52), .ref (ad 53), .ref (ad 54), .ref (ad 55), .int 0, .ref (ad 57), .ref (ad 58), .ref (ad 59), .ref (ad 60), .int ((-9)), .int 0, .int 0, .int 0, .int ((-9)), .int 0, .int 0])), (ad 1, .inl (cI, 120, .inl (fun _ => 0))), (ad 2, .inl (cI, 120, .inl (fun _ => 0))), (ad 3, .inl (cI, 120, .inl (fun _ => 0))), (ad 4, .inl (cI, 720, .inl (fun _ => 0))), (ad 5, .inl (cI, 720, .inl (fun _ => 0))), (ad 6, .inl (cI, 120, .inl (fun _ => 0)))]) (w1 := []) hP hD [] [0, 1, 2, 3, 4, 5, 6] rfl rfl (by decide) (by decide) hk1 hFc hP1 hD1
        generalize H1 = H at hP hS ⊢
        obtain rfl : r_73 = p_hasL kd := hw
        have hP : va_P (dC, dI) vwCl [(h0, .inr (8, [.int 0, .ref (ad 1), .ref (ad 2), .ref (ad 3), .ref (ad 4), .ref (ad 5), .ref (ad 6), .int 0, .ref (ad 8), .ref (ad 9), .ref (ad 10), .ref (ad 11), .ref (ad 12), .ref (ad 13), .int 0, .ref (ad 15), .int 0, .ref (ad 17), .ref (ad 18), .ref (ad 19), .ref (ad 20), .ref (ad 21), .int 0, .int 0, .int ((-9)), .int 0, .int 0, .int 0, .int 0, .ref (ad 29), .ref (ad 30), .int 0, .int 0, .int 0, .int 0, .int 0, .ref (ad 36), .ref (ad 37), .ref (ad 38), .int 0, .ref (ad 40), .ref (ad 41), .int 0, .ref (ad 43), .ref (ad 44), .int 0, .ref (ad 46), .int 0, .int 0, .ref (ad 49), .ref (ad 50), .int 0, .ref (ad 52), .ref (ad 53), .ref (ad 54), .ref (ad 55), .int 0, .ref (ad 57), .ref (ad 58), .ref (ad 59), .ref (ad 60), .int ((-9)), .int 0, .int 0, .int 0, .int ((-9)), .int 0, .int 0])), (ad 1, .inl (cI, 120, .inl (fun _ => 0))), (ad 2, .inl (cI, 120, .inl (fun _ => 0))), (ad 3, .inl (cI, 120, .inl (fun _ => 0))), (ad 4, .inl (cI, 720, .inl (fun _ => 0))), (ad 5, .inl (cI, 720, .inl (fun _ => 0))), (ad 6, .inl (cI, 120, .inl (fun _ => 0)))] H := hP
        have hD : va_D A [(h0, .inr (8, [.int 0, .ref (ad 1), .ref (ad 2), .ref (ad 3), .ref (ad 4), .ref (ad 5), .ref (ad 6), .int 0, .ref (ad 8), .ref (ad 9), .ref (ad 10), .ref (ad 11), .ref (ad 12), .ref (ad 13), .int 0, .ref (ad 15), .int 0, .ref (ad 17), .ref (ad 18), .ref (ad 19), .ref (ad 20), .ref (ad 21), .int 0, .int 0, .int ((-9)), .int 0, .int 0, .int 0, .int 0, .ref (ad 29), .ref (ad 30), .int 0, .int 0, .int 0, .int 0, .int 0, .ref (ad 36), .ref (ad 37), .ref (ad 38), .int 0, .ref (ad 40), .ref (ad 41), .int 0, .ref (ad 43), .ref (ad 44), .int 0, .ref (ad 46), .int 0, .int 0, .ref (ad 49), .ref (ad 50), .int 0, .ref (ad 52), .ref (ad 53), .ref (ad 54), .ref (ad 55), .int 0, .ref (ad 57), .ref (ad 58), .ref (ad 59), .ref (ad 60), .int ((-9)), .int 0, .int 0, .int 0, .int ((-9)), .int 0, .int 0])), (ad 1, .inl (cI, 120, .inl (fun _ => 0))), (ad 2, .inl (cI, 120, .inl (fun _ => 0))), (ad 3, .inl (cI, 120, .inl (fun _ => 0))), (ad 4, .inl (cI, 720, .inl (fun _ => 0))), (ad 5, .inl (cI, 720, .inl (fun _ => 0))), (ad 6, .inl (cI, 120, .inl (fun _ => 0)))] := hD
        refine W.widen (k := 0) (n := 0) (Nat.le_of_ble_eq_true rfl) (Nat.le_of_ble_eq_true rfl) ?_
        refine lv_if_eq (tgt := 43) hx hb dX8_node_28 (by decide) (fun c_74 => ?_) (fun c_74 => ?_)
        · skip
          exact cut_1 _ _ _ _ _ ⟨ls, (by simp only [m_node, if_neg c_71, if_pos c_72, if_pos c_74]), rfl, rfl, hP.sub [0, 1, 2, 3, 4, 5, 6] rfl, hD.sub [0, 1, 2, 3, 4, 5, 6] (by decide) rfl, hS, lv_sub hl [0, 1, 2, 3, 4, 5] rfl, rfl⟩
        · skip
          refine lv_iload_n hx hb dX8_node_31 rfl (lv_at hl 2 rfl) ?_
          refine lv_iconst (v := 0) hx hb dX8_node_32 (by decide) ?_
          refine lv_bipush (v := 25) hx hb dX8_node_33 (by decide) ?_
          have hPc := hP.sub (ws' := []) [] rfl
          have hDc := hD.sub (ws' := []) [] (by decide) rfl
          have hFc := va_free (wc := []) hD hS hA [] rfl
          refine va_calli (va_runS (As := [.int v, .int 0, .int 25]) (rest := []) ⟨hx, hb, hml, hown, hts⟩ (c_m_in l dC dI cI v 0 25 H.size) (va_cwS 3 hts gX8_node_X8_in rfl rfl rfl (by decide +kernel) ⟨Nat.le_of_ble_eq_true rfl, Nat.le_of_ble_eq_true rfl⟩) ⟨fun a U g mk q => by obtain ⟨q0, q1, qP, qK, qD⟩ := q; exact ⟨q0, q1, qP, va_K.moved (u := U) (U := U.calling g mk a) (Vm.Alike.refl U.vm) qK, qD⟩, fun U hU hW => ⟨rfl, by rw [hU], by rw [hU]; exact hPc, va_K.moved hW.alike hK, hDc.weaken (fun _ _ _ _ => trivial)⟩⟩ rfl rfl hl.1 rfl (lv_room (Nat.le_of_ble_eq_true rfl)) dX8_node_35 ⟨Nat.le_of_ble_eq_true rfl, Nat.le_of_ble_eq_true rfl⟩) hS (fun q _ h => hFc q h) hFc (fun r_75 u t H1 locs ht hvm hw hB hz1 hk1 hS => ?_)
          obtain ⟨hP1, hK1, hD1⟩ := hB
          rw [ht] at hP1
          obtain ⟨hP, hD⟩ := va_join (wr := [(h0, .inr (8, [.int 0, .ref (ad 1), .ref (ad 2), .ref (ad 3), .ref (ad 4), .ref (ad 5), .ref (ad 6), .int 0, .ref (ad 8), .ref (ad 9), .ref (ad 10), .ref (ad 11), .ref (ad 12), .ref (ad 13), .int 0, .ref (ad 15), .int 0, .ref (ad 17), .ref (ad 18), .ref (ad 19), .ref (ad 20), .ref (ad 21), .int 0, .int 0, .int ((-9)), .int 0, .int 0, .int 0, .int 0, .ref (ad 29), .ref (ad 30), .int 0, .int 0, .int 0, .int 0, .int 0, .ref (ad 36), .ref (ad 37), .ref (ad 38), .int 0, .ref (ad 40), .ref (ad 41), .int 0, .ref (ad 43), .ref (ad 44), .int 0, .ref (ad 46), .int 0, .int 0, .ref (ad 49), .ref (ad 50), .int 0, .ref (ad 52), .ref (ad 53), .ref (ad 54), .ref (ad 55), .int 0, .ref (ad 57), .ref (ad 58), .ref (ad 59), .ref (ad 60), .int ((-9)), .int 0, .int 0, .int 0, .int ((-9)), .int 0, .int 0])), (ad 1, .inl (cI, 120, .inl (fun _ => 0))), (ad 2, .inl (cI, 120, .inl (fun _ => 0))), (ad 3, .inl (cI, 120, .inl (fun _ => 0))), (ad 4, .inl (cI, 720, .inl (fun _ => 0))), (ad 5, .inl (cI, 720, .inl (fun _ => 0))), (ad 6, .inl (cI, 120, .inl (fun _ => 0)))]) (w1 := []) hP hD [] [0, 1, 2, 3, 4, 5, 6] rfl rfl (by decide) (by decide) hk1 hFc hP1 hD1
          generalize H1 = H at hP hS ⊢
          obtain rfl : r_75 = p_in v 0 25 := hw
          have hP : va_P (dC, dI) vwCl [(h0, .inr (8, [.int 0, .ref (ad 1), .ref (ad 2), .ref (ad 3), .ref (ad 4), .ref (ad 5), .ref (ad 6), .int 0, .ref (ad 8), .ref (ad 9), .ref (ad 10), .ref (ad 11), .ref (ad 12), .ref (ad 13), .int 0, .ref (ad 15), .int 0, .ref (ad 17), .ref (ad 18), .ref (ad 19), .ref (ad 20), .ref (ad 21), .int 0, .int 0, .int ((-9)), .int 0, .int 0, .int 0, .int 0, .ref (ad 29), .ref (ad 30), .int 0, .int 0, .int 0, .int 0, .int 0, .ref (ad 36), .ref (ad 37), .ref (ad 38), .int 0, .ref (ad 40), .ref (ad 41), .int 0, .ref (ad 43), .ref (ad 44), .int 0, .ref (ad 46), .int 0, .int 0, .ref (ad 49), .ref (ad 50), .int 0, .ref (ad 52), .ref (ad 53), .ref (ad 54), .ref (ad 55), .int 0, .ref (ad 57), .ref (ad 58), .ref (ad 59), .ref (ad 60), .int ((-9)), .int 0, .int 0, .int 0, .int ((-9)), .int 0, .int 0])), (ad 1, .inl (cI, 120, .inl (fun _ => 0))), (ad 2, .inl (cI, 120, .inl (fun _ => 0))), (ad 3, .inl (cI, 120, .inl (fun _ => 0))), (ad 4, .inl (cI, 720, .inl (fun _ => 0))), (ad 5, .inl (cI, 720, .inl (fun _ => 0))), (ad 6, .inl (cI, 120, .inl (fun _ => 0)))] H := hP
          have hD : va_D A [(h0, .inr (8, [.int 0, .ref (ad 1), .ref (ad 2), .ref (ad 3), .ref (ad 4), .ref (ad 5), .ref (ad 6), .int 0, .ref (ad 8), .ref (ad 9), .ref (ad 10), .ref (ad 11), .ref (ad 12), .ref (ad 13), .int 0, .ref (ad 15), .int 0, .ref (ad 17), .ref (ad 18), .ref (ad 19), .ref (ad 20), .ref (ad 21), .int 0, .int 0, .int ((-9)), .int 0, .int 0, .int 0, .int 0, .ref (ad 29), .ref (ad 30), .int 0, .int 0, .int 0, .int 0, .int 0, .ref (ad 36), .ref (ad 37), .ref (ad 38), .int 0, .ref (ad 40), .ref (ad 41), .int 0, .ref (ad 43), .ref (ad 44), .int 0, .ref (ad 46), .int 0, .int 0, .ref (ad 49), .ref (ad 50), .int 0, .ref (ad 52), .ref (ad 53), .ref (ad 54), .ref (ad 55), .int 0, .ref (ad 57), .ref (ad 58), .ref (ad 59), .ref (ad 60), .int ((-9)), .int 0, .int 0, .int 0, .int ((-9)), .int 0, .int 0])), (ad 1, .inl (cI, 120, .inl (fun _ => 0))), (ad 2, .inl (cI, 120, .inl (fun _ => 0))), (ad 3, .inl (cI, 120, .inl (fun _ => 0))), (ad 4, .inl (cI, 720, .inl (fun _ => 0))), (ad 5, .inl (cI, 720, .inl (fun _ => 0))), (ad 6, .inl (cI, 120, .inl (fun _ => 0)))] := hD
          refine W.widen (k := 0) (n := 0) (Nat.le_of_ble_eq_true rfl) (Nat.le_of_ble_eq_true rfl) ?_
          refine lv_if_ne (tgt := 43) hx hb dX8_node_38 (by decide) (fun c_76 => ?_) (fun c_76 => ?_)
          · skip
            exact cut_1 _ _ _ _ _ ⟨ls, (by simp only [m_node, if_neg c_71, if_pos c_72, if_neg c_74, if_pos c_76]), rfl, rfl, hP.sub [0, 1, 2, 3, 4, 5, 6] rfl, hD.sub [0, 1, 2, 3, 4, 5, 6] (by decide) rfl, hS, lv_sub hl [0, 1, 2, 3, 4, 5] rfl, rfl⟩
          · skip
            refine lv_iconst (v := (-1)) hx hb dX8_node_41 (by decide) ?_
            have hP9 := hP.sub (ws' := []) [] rfl
            have hD9 := hD.sub (ws' := []) [] (by decide) rfl
            refine W.widen (k := 0) (n := 0) (Nat.le_of_ble_eq_true rfl) (Nat.le_of_ble_eq_true rfl) ?_
            exact W.iret (v := (-1)) hx hb hr (fun t ht hW => ⟨⟨(-1), (), rfl, (by simp only [m_node, if_neg c_71, if_pos c_72, if_neg c_74, if_neg (not_not_intro c_76)]), by rw [ht]; exact hP9, va_K.moved hW.alike hK, hD9⟩, hS.F ht⟩) hS.2.2 dX8_node_42
      · skip
        refine lv_iload_n hx hb dX8_node_15 rfl (lv_at hl 2 rfl) ?_
        refine lv_iconst (v := 0) hx hb dX8_node_16 (by decide) ?_
        refine lv_iconst (v := 1) hx hb dX8_node_17 (by decide) ?_
        have hPc := hP.sub (ws' := []) [] rfl
        have hDc := hD.sub (ws' := []) [] (by decide) rfl
        have hFc := va_free (wc := []) hD hS hA [] rfl
        refine va_calli (va_runS (As := [.int v, .int 0, .int 1]) (rest := []) ⟨hx, hb, hml, hown, hts⟩ (c_m_in l dC dI cI v 0 1 H.size) (va_cwS 3 hts gX8_node_X8_in rfl rfl rfl (by decide +kernel) ⟨Nat.le_of_ble_eq_true rfl, Nat.le_of_ble_eq_true rfl⟩) ⟨fun a U g mk q => by obtain ⟨q0, q1, qP, qK, qD⟩ := q; exact ⟨q0, q1, qP, va_K.moved (u := U) (U := U.calling g mk a) (Vm.Alike.refl U.vm) qK, qD⟩, fun U hU hW => ⟨rfl, by rw [hU], by rw [hU]; exact hPc, va_K.moved hW.alike hK, hDc.weaken (fun _ _ _ _ => trivial)⟩⟩ rfl rfl hl.1 rfl (lv_room (Nat.le_of_ble_eq_true rfl)) dX8_node_18 ⟨Nat.le_of_ble_eq_true rfl, Nat.le_of_ble_eq_true rfl⟩) hS (fun q _ h => hFc q h) hFc (fun r_77 u t H1 locs ht hvm hw hB hz1 hk1 hS => ?_)
        obtain ⟨hP1, hK1, hD1⟩ := hB
        rw [ht] at hP1
        obtain ⟨hP, hD⟩ := va_join (wr := [(h0, .inr (8, [.int 0, .ref (ad 1), .ref (ad 2), .ref (ad 3), .ref (ad 4), .ref (ad 5), .ref (ad 6), .int 0, .ref (ad 8), .ref (ad 9), .ref (ad 10), .ref (ad 11), .ref (ad 12), .ref (ad 13), .int 0, .ref (ad 15), .int 0, .ref (ad 17), .ref (ad 18), .ref (ad 19), .ref (ad 20), .ref (ad 21), .int 0, .int 0, .int ((-9)), .int 0, .int 0, .int 0, .int 0, .ref (ad 29), .ref (ad 30), .int 0, .int 0, .int 0, .int 0, .int 0, .ref (ad 36), .ref (ad 37), .ref (ad 38), .int 0, .ref (ad 40), .ref (ad 41), .int 0, .ref (ad 43), .ref (ad 44), .int 0, .ref (ad 46), .int 0, .int 0, .ref (ad 49), .ref (ad 50), .int 0, .ref (ad 52), .ref (ad 53), .ref (ad 54), .ref (ad 55), .int 0, .ref (ad 57), .ref (ad 58), .ref (ad 59), .ref (ad 60), .int ((-9)), .int 0, .int 0, .int 0, .int ((-9)), .int 0, .int 0])), (ad 1, .inl (cI, 120, .inl (fun _ => 0))), (ad 2, .inl (cI, 120, .inl (fun _ => 0))), (ad 3, .inl (cI, 120, .inl (fun _ => 0))), (ad 4, .inl (cI, 720, .inl (fun _ => 0))), (ad 5, .inl (cI, 720, .inl (fun _ => 0))), (ad 6, .inl (cI, 120, .inl (fun _ => 0)))]) (w1 := []) hP hD [] [0, 1, 2, 3, 4, 5, 6] rfl rfl (by decide) (by decide) hk1 hFc hP1 hD1
        generalize H1 = H at hP hS ⊢
        obtain rfl : r_77 = p_in v 0 1 := hw
        have hP : va_P (dC, dI) vwCl [(h0, .inr (8, [.int 0, .ref (ad 1), .ref (ad 2), .ref (ad 3), .ref (ad 4), .ref (ad 5), .ref (ad 6), .int 0, .ref (ad 8), .ref (ad 9), .ref (ad 10), .ref (ad 11), .ref (ad 12), .ref (ad 13), .int 0, .ref (ad 15), .int 0, .ref (ad 17), .ref (ad 18), .ref (ad 19), .ref (ad 20), .ref (ad 21), .int 0, .int 0, .int ((-9)), .int 0, .int 0, .int 0, .int 0, .ref (ad 29), .ref (ad 30), .int 0, .int 0, .int 0, .int 0, .int 0, .ref (ad 36), .ref (ad 37), .ref (ad 38), .int 0, .ref (ad 40), .ref (ad 41), .int 0, .ref (ad 43), .ref (ad 44), .int 0, .ref (ad 46), .int 0, .int 0, .ref (ad 49), .ref (ad 50), .int 0, .ref (ad 52), .ref (ad 53), .ref (ad 54), .ref (ad 55), .int 0, .ref (ad 57), .ref (ad 58), .ref (ad 59), .ref (ad 60), .int ((-9)), .int 0, .int 0, .int 0, .int ((-9)), .int 0, .int 0])), (ad 1, .inl (cI, 120, .inl (fun _ => 0))), (ad 2, .inl (cI, 120, .inl (fun _ => 0))), (ad 3, .inl (cI, 120, .inl (fun _ => 0))), (ad 4, .inl (cI, 720, .inl (fun _ => 0))), (ad 5, .inl (cI, 720, .inl (fun _ => 0))), (ad 6, .inl (cI, 120, .inl (fun _ => 0)))] H := hP
        have hD : va_D A [(h0, .inr (8, [.int 0, .ref (ad 1), .ref (ad 2), .ref (ad 3), .ref (ad 4), .ref (ad 5), .ref (ad 6), .int 0, .ref (ad 8), .ref (ad 9), .ref (ad 10), .ref (ad 11), .ref (ad 12), .ref (ad 13), .int 0, .ref (ad 15), .int 0, .ref (ad 17), .ref (ad 18), .ref (ad 19), .ref (ad 20), .ref (ad 21), .int 0, .int 0, .int ((-9)), .int 0, .int 0, .int 0, .int 0, .ref (ad 29), .ref (ad 30), .int 0, .int 0, .int 0, .int 0, .int 0, .ref (ad 36), .ref (ad 37), .ref (ad 38), .int 0, .ref (ad 40), .ref (ad 41), .int 0, .ref (ad 43), .ref (ad 44), .int 0, .ref (ad 46), .int 0, .int 0, .ref (ad 49), .ref (ad 50), .int 0, .ref (ad 52), .ref (ad 53), .ref (ad 54), .ref (ad 55), .int 0, .ref (ad 57), .ref (ad 58), .ref (ad 59), .ref (ad 60), .int ((-9)), .int 0, .int 0, .int 0, .int ((-9)), .int 0, .int 0])), (ad 1, .inl (cI, 120, .inl (fun _ => 0))), (ad 2, .inl (cI, 120, .inl (fun _ => 0))), (ad 3, .inl (cI, 120, .inl (fun _ => 0))), (ad 4, .inl (cI, 720, .inl (fun _ => 0))), (ad 5, .inl (cI, 720, .inl (fun _ => 0))), (ad 6, .inl (cI, 120, .inl (fun _ => 0)))] := hD
        refine W.widen (k := 0) (n := 0) (Nat.le_of_ble_eq_true rfl) (Nat.le_of_ble_eq_true rfl) ?_
        refine lv_if_eq (tgt := 41) hx hb dX8_node_21 (by decide) (fun c_78 => ?_) (fun c_78 => ?_)
        · skip
          refine lv_iconst (v := (-1)) hx hb dX8_node_41 (by decide) ?_
          have hP9 := hP.sub (ws' := []) [] rfl
          have hD9 := hD.sub (ws' := []) [] (by decide) rfl
          refine W.widen (k := 0) (n := 0) (Nat.le_of_ble_eq_true rfl) (Nat.le_of_ble_eq_true rfl) ?_
          exact W.iret (v := (-1)) hx hb hr (fun t ht hW => ⟨⟨(-1), (), rfl, (by simp only [m_node, if_neg c_71, if_neg (not_not_intro c_72), if_pos c_78]), by rw [ht]; exact hP9, va_K.moved hW.alike hK, hD9⟩, hS.F ht⟩) hS.2.2 dX8_node_42
        · skip
          refine lv_iload_n hx hb dX8_node_24 rfl (lv_at hl 1 rfl) ?_
          have hPc := hP.sub (ws' := []) [] rfl
          have hDc := hD.sub (ws' := []) [] (by decide) rfl
          have hFc := va_free (wc := []) hD hS hA [] rfl
          refine va_calli (va_runS (As := [.int kd]) (rest := []) ⟨hx, hb, hml, hown, hts⟩ (c_m_hasName l dC dI cI kd H.size) (va_cwS 1 hts gX8_node_X8_hasName rfl rfl rfl (by decide +kernel) ⟨Nat.le_of_ble_eq_true rfl, Nat.le_of_ble_eq_true rfl⟩) ⟨fun a U g mk q => by obtain ⟨q0, q1, qP, qK, qD⟩ := q; exact ⟨q0, q1, qP, va_K.moved (u := U) (U := U.calling g mk a) (Vm.Alike.refl U.vm) qK, qD⟩, fun U hU hW => ⟨rfl, by rw [hU], by rw [hU]; exact hPc, va_K.moved hW.alike hK, hDc.weaken (fun _ _ _ _ => trivial)⟩⟩ rfl rfl hl.1 rfl (lv_room (Nat.le_of_ble_eq_true rfl)) dX8_node_25 ⟨Nat.le_of_ble_eq_true rfl, Nat.le_of_ble_eq_true rfl⟩) hS (fun q _ h => hFc q h) hFc (fun r_79 u t H1 locs ht hvm hw hB hz1 hk1 hS => ?_)
          obtain ⟨hP1, hK1, hD1⟩ := hB
          rw [ht] at hP1
          obtain ⟨hP, hD⟩ := va_join (wr := [(h0, .inr (8, [.int 0, .ref (ad 1), .ref (ad 2), .ref (ad 3), .ref (ad 4), .ref (ad 5), .ref (ad 6), .int 0, .ref (ad 8), .ref (ad 9), .ref (ad 10), .ref (ad 11), .ref (ad 12), .ref (ad 13), .int 0, .ref (ad 15), .int 0, .ref (ad 17), .ref (ad 18), .ref (ad 19), .ref (ad 20), .ref (ad 21), .int 0, .int 0, .int ((-9)), .int 0, .int 0, .int 0, .int 0, .ref (ad 29), .ref (ad 30), .int 0, .int 0, .int 0, .int 0, .int 0, .ref (ad 36), .ref (ad 37), .ref (ad 38), .int 0, .ref (ad 40), .ref (ad 41), .int 0, .ref (ad 43), .ref (ad 44), .int 0, .ref (ad 46), .int 0, .int 0, .ref (ad 49), .ref (ad 50), .int 0, .ref (ad 52), .ref (ad 53), .ref (ad 54), .ref (ad 55), .int 0, .ref (ad 57), .ref (ad 58), .ref (ad 59), .ref (ad 60), .int ((-9)), .int 0, .int 0, .int 0, .int ((-9)), .int 0, .int 0])), (ad 1, .inl (cI, 120, .inl (fun _ => 0))), (ad 2, .inl (cI, 120, .inl (fun _ => 0))), (ad 3, .inl (cI, 120, .inl (fun _ => 0))), (ad 4, .inl (cI, 720, .inl (fun _ => 0))), (ad 5, .inl (cI, 720, .inl (fun _ => 0))), (ad 6, .inl (cI, 120, .inl (fun _ => 0)))]) (w1 := []) hP hD [] [0, 1, 2, 3, 4, 5, 6] rfl rfl (by decide) (by decide) hk1 hFc hP1 hD1
          generalize H1 = H at hP hS ⊢
          obtain rfl : r_79 = p_hasL kd := hw
          have hP : va_P (dC, dI) vwCl [(h0, .inr (8, [.int 0, .ref (ad 1), .ref (ad 2), .ref (ad 3), .ref (ad 4), .ref (ad 5), .ref (ad 6), .int 0, .ref (ad 8), .ref (ad 9), .ref (ad 10), .ref (ad 11), .ref (ad 12), .ref (ad 13), .int 0, .ref (ad 15), .int 0, .ref (ad 17), .ref (ad 18), .ref (ad 19), .ref (ad 20), .ref (ad 21), .int 0, .int 0, .int ((-9)), .int 0, .int 0, .int 0, .int 0, .ref (ad 29), .ref (ad 30), .int 0, .int 0, .int 0, .int 0, .int 0, .ref (ad 36), .ref (ad 37), .ref (ad 38), .int 0, .ref (ad 40), .ref (ad 41), .int 0, .ref (ad 43), .ref (ad 44), .int 0, .ref (ad 46), .int 0, .int 0, .ref (ad 49), .ref (ad 50), .int 0, .ref (ad 52), .ref (ad 53), .ref (ad 54), .ref (ad 55), .int 0, .ref (ad 57), .ref (ad 58), .ref (ad 59), .ref (ad 60), .int ((-9)), .int 0, .int 0, .int 0, .int ((-9)), .int 0, .int 0])), (ad 1, .inl (cI, 120, .inl (fun _ => 0))), (ad 2, .inl (cI, 120, .inl (fun _ => 0))), (ad 3, .inl (cI, 120, .inl (fun _ => 0))), (ad 4, .inl (cI, 720, .inl (fun _ => 0))), (ad 5, .inl (cI, 720, .inl (fun _ => 0))), (ad 6, .inl (cI, 120, .inl (fun _ => 0)))] H := hP
          have hD : va_D A [(h0, .inr (8, [.int 0, .ref (ad 1), .ref (ad 2), .ref (ad 3), .ref (ad 4), .ref (ad 5), .ref (ad 6), .int 0, .ref (ad 8), .ref (ad 9), .ref (ad 10), .ref (ad 11), .ref (ad 12), .ref (ad 13), .int 0, .ref (ad 15), .int 0, .ref (ad 17), .ref (ad 18), .ref (ad 19), .ref (ad 20), .ref (ad 21), .int 0, .int 0, .int ((-9)), .int 0, .int 0, .int 0, .int 0, .ref (ad 29), .ref (ad 30), .int 0, .int 0, .int 0, .int 0, .int 0, .ref (ad 36), .ref (ad 37), .ref (ad 38), .int 0, .ref (ad 40), .ref (ad 41), .int 0, .ref (ad 43), .ref (ad 44), .int 0, .ref (ad 46), .int 0, .int 0, .ref (ad 49), .ref (ad 50), .int 0, .ref (ad 52), .ref (ad 53), .ref (ad 54), .ref (ad 55), .int 0, .ref (ad 57), .ref (ad 58), .ref (ad 59), .ref (ad 60), .int ((-9)), .int 0, .int 0, .int 0, .int ((-9)), .int 0, .int 0])), (ad 1, .inl (cI, 120, .inl (fun _ => 0))), (ad 2, .inl (cI, 120, .inl (fun _ => 0))), (ad 3, .inl (cI, 120, .inl (fun _ => 0))), (ad 4, .inl (cI, 720, .inl (fun _ => 0))), (ad 5, .inl (cI, 720, .inl (fun _ => 0))), (ad 6, .inl (cI, 120, .inl (fun _ => 0)))] := hD
          refine W.widen (k := 0) (n := 0) (Nat.le_of_ble_eq_true rfl) (Nat.le_of_ble_eq_true rfl) ?_
          refine lv_if_eq (tgt := 43) hx hb dX8_node_28 (by decide) (fun c_80 => ?_) (fun c_80 => ?_)
          · skip
            exact cut_1 _ _ _ _ _ ⟨ls, (by simp only [m_node, if_neg c_71, if_neg (not_not_intro c_72), if_neg c_78, if_pos c_80]), rfl, rfl, hP.sub [0, 1, 2, 3, 4, 5, 6] rfl, hD.sub [0, 1, 2, 3, 4, 5, 6] (by decide) rfl, hS, lv_sub hl [0, 1, 2, 3, 4, 5] rfl, rfl⟩
          · skip
            refine lv_iload_n hx hb dX8_node_31 rfl (lv_at hl 2 rfl) ?_
            refine lv_iconst (v := 0) hx hb dX8_node_32 (by decide) ?_
            refine lv_bipush (v := 25) hx hb dX8_node_33 (by decide) ?_
            have hPc := hP.sub (ws' := []) [] rfl
            have hDc := hD.sub (ws' := []) [] (by decide) rfl
            have hFc := va_free (wc := []) hD hS hA [] rfl
            refine va_calli (va_runS (As := [.int v, .int 0, .int 25]) (rest := []) ⟨hx, hb, hml, hown, hts⟩ (c_m_in l dC dI cI v 0 25 H.size) (va_cwS 3 hts gX8_node_X8_in rfl rfl rfl (by decide +kernel) ⟨Nat.le_of_ble_eq_true rfl, Nat.le_of_ble_eq_true rfl⟩) ⟨fun a U g mk q => by obtain ⟨q0, q1, qP, qK, qD⟩ := q; exact ⟨q0, q1, qP, va_K.moved (u := U) (U := U.calling g mk a) (Vm.Alike.refl U.vm) qK, qD⟩, fun U hU hW => ⟨rfl, by rw [hU], by rw [hU]; exact hPc, va_K.moved hW.alike hK, hDc.weaken (fun _ _ _ _ => trivial)⟩⟩ rfl rfl hl.1 rfl (lv_room (Nat.le_of_ble_eq_true rfl)) dX8_node_35 ⟨Nat.le_of_ble_eq_true rfl, Nat.le_of_ble_eq_true rfl⟩) hS (fun q _ h => hFc q h) hFc (fun r_81 u t H1 locs ht hvm hw hB hz1 hk1 hS => ?_)
            obtain ⟨hP1, hK1, hD1⟩ := hB
            rw [ht] at hP1
            obtain ⟨hP, hD⟩ := va_join (wr := [(h0, .inr (8, [.int 0, .ref (ad 1), .ref (ad 2), .ref (ad 3), .ref (ad 4), .ref (ad 5), .ref (ad 6), .int 0, .ref (ad 8), .ref (ad 9), .ref (ad 10), .ref (ad 11), .ref (ad 12), .ref (ad 13), .int 0, .ref (ad 15), .int 0, .ref (ad 17), .ref (ad 18), .ref (ad 19), .ref (ad 20), .ref (ad 21), .int 0, .int 0, .int ((-9)), .int 0, .int 0, .int 0, .int 0, .ref (ad 29), .ref (ad 30), .int 0, .int 0, .int 0, .int 0, .int 0, .ref (ad 36), .ref (ad 37), .ref (ad 38), .int 0, .ref (ad 40), .ref (ad 41), .int 0, .ref (ad 43), .ref (ad 44), .int 0, .ref (ad 46), .int 0, .int 0, .ref (ad 49), .ref (ad 50), .int 0, .ref (ad 52), .ref (ad 53), .ref (ad 54), .ref (ad 55), .int 0, .ref (ad 57), .ref (ad 58), .ref (ad 59), .ref (ad 60), .int ((-9)), .int 0, .int 0, .int 0, .int ((-9)), .int 0, .int 0])), (ad 1, .inl (cI, 120, .inl (fun _ => 0))), (ad 2, .inl (cI, 120, .inl (fun _ => 0))), (ad 3, .inl (cI, 120, .inl (fun _ => 0))), (ad 4, .inl (cI, 720, .inl (fun _ => 0))), (ad 5, .inl (cI, 720, .inl (fun _ => 0))), (ad 6, .inl (cI, 120, .inl (fun _ => 0)))]) (w1 := []) hP hD [] [0, 1, 2, 3, 4, 5, 6] rfl rfl (by decide) (by decide) hk1 hFc hP1 hD1
            generalize H1 = H at hP hS ⊢
            obtain rfl : r_81 = p_in v 0 25 := hw
            have hP : va_P (dC, dI) vwCl [(h0, .inr (8, [.int 0, .ref (ad 1), .ref (ad 2), .ref (ad 3), .ref (ad 4), .ref (ad 5), .ref (ad 6), .int 0, .ref (ad 8), .ref (ad 9), .ref (ad 10), .ref (ad 11), .ref (ad 12), .ref (ad 13), .int 0, .ref (ad 15), .int 0, .ref (ad 17), .ref (ad 18), .ref (ad 19), .ref (ad 20), .ref (ad 21), .int 0, .int 0, .int ((-9)), .int 0, .int 0, .int 0, .int 0, .ref (ad 29), .ref (ad 30), .int 0, .int 0, .int 0, .int 0, .int 0, .ref (ad 36), .ref (ad 37), .ref (ad 38), .int 0, .ref (ad 40), .ref (ad 41), .int 0, .ref (ad 43), .ref (ad 44), .int 0, .ref (ad 46), .int 0, .int 0, .ref (ad 49), .ref (ad 50), .int 0, .ref (ad 52), .ref (ad 53), .ref (ad 54), .ref (ad 55), .int 0, .ref (ad 57), .ref (ad 58), .ref (ad 59), .ref (ad 60), .int ((-9)), .int 0, .int 0, .int 0, .int ((-9)), .int 0, .int 0])), (ad 1, .inl (cI, 120, .inl (fun _ => 0))), (ad 2, .inl (cI, 120, .inl (fun _ => 0))), (ad 3, .inl (cI, 120, .inl (fun _ => 0))), (ad 4, .inl (cI, 720, .inl (fun _ => 0))), (ad 5, .inl (cI, 720, .inl (fun _ => 0))), (ad 6, .inl (cI, 120, .inl (fun _ => 0)))] H := hP
            have hD : va_D A [(h0, .inr (8, [.int 0, .ref (ad 1), .ref (ad 2), .ref (ad 3), .ref (ad 4), .ref (ad 5), .ref (ad 6), .int 0, .ref (ad 8), .ref (ad 9), .ref (ad 10), .ref (ad 11), .ref (ad 12), .ref (ad 13), .int 0, .ref (ad 15), .int 0, .ref (ad 17), .ref (ad 18), .ref (ad 19), .ref (ad 20), .ref (ad 21), .int 0, .int 0, .int ((-9)), .int 0, .int 0, .int 0, .int 0, .ref (ad 29), .ref (ad 30), .int 0, .int 0, .int 0, .int 0, .int 0, .ref (ad 36), .ref (ad 37), .ref (ad 38), .int 0, .ref (ad 40), .ref (ad 41), .int 0, .ref (ad 43), .ref (ad 44), .int 0, .ref (ad 46), .int 0, .int 0, .ref (ad 49), .ref (ad 50), .int 0, .ref (ad 52), .ref (ad 53), .ref (ad 54), .ref (ad 55), .int 0, .ref (ad 57), .ref (ad 58), .ref (ad 59), .ref (ad 60), .int ((-9)), .int 0, .int 0, .int 0, .int ((-9)), .int 0, .int 0])), (ad 1, .inl (cI, 120, .inl (fun _ => 0))), (ad 2, .inl (cI, 120, .inl (fun _ => 0))), (ad 3, .inl (cI, 120, .inl (fun _ => 0))), (ad 4, .inl (cI, 720, .inl (fun _ => 0))), (ad 5, .inl (cI, 720, .inl (fun _ => 0))), (ad 6, .inl (cI, 120, .inl (fun _ => 0)))] := hD
            refine W.widen (k := 0) (n := 0) (Nat.le_of_ble_eq_true rfl) (Nat.le_of_ble_eq_true rfl) ?_
            refine lv_if_ne (tgt := 43) hx hb dX8_node_38 (by decide) (fun c_82 => ?_) (fun c_82 => ?_)
            · skip
              exact cut_1 _ _ _ _ _ ⟨ls, (by simp only [m_node, if_neg c_71, if_neg (not_not_intro c_72), if_neg c_78, if_neg c_80, if_pos c_82]), rfl, rfl, hP.sub [0, 1, 2, 3, 4, 5, 6] rfl, hD.sub [0, 1, 2, 3, 4, 5, 6] (by decide) rfl, hS, lv_sub hl [0, 1, 2, 3, 4, 5] rfl, rfl⟩
            · skip
              refine lv_iconst (v := (-1)) hx hb dX8_node_41 (by decide) ?_
              have hP9 := hP.sub (ws' := []) [] rfl
              have hD9 := hD.sub (ws' := []) [] (by decide) rfl
              refine W.widen (k := 0) (n := 0) (Nat.le_of_ble_eq_true rfl) (Nat.le_of_ble_eq_true rfl) ?_
              exact W.iret (v := (-1)) hx hb hr (fun t ht hW => ⟨⟨(-1), (), rfl, (by simp only [m_node, if_neg c_71, if_neg (not_not_intro c_72), if_neg c_78, if_neg c_80, if_neg (not_not_intro c_82)]), by rw [ht]; exact hP9, va_K.moved hW.alike hK, hD9⟩, hS.F ht⟩) hS.2.2 dX8_node_42

