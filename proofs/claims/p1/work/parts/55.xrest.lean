theorem dX7_field_0 : decode cX7_field 0 = .ok (.aload_n 0, 1) := by decide +kernel
theorem dX7_field_1 : decode cX7_field 1 = .ok (.getfield 12, 3) := by decide +kernel
theorem dX7_field_4 : decode cX7_field 4 = .ok (.iload_n 1, 1) := by decide +kernel
set_option maxRecDepth 20000 in
theorem ggX7_field_X3_isNode : GoodIn wsX7_field wsX3_isNode := goodIn_r _ [7, 8, 9, 10, 11, 12, 13, 14, 134, 135, 136, 137, 138, 139, 140, 141] (by decide +kernel) (by decide +kernel)
set_option maxRecDepth 20000 in
theorem gX7_field_X3_isNode : GoodIn wsX7_field (wsV RX7 67 RX3 yX3_isNode wsX3_isNode) := goodIn_app (goodIn_of _ (by decide +kernel)) ggX7_field_X3_isNode
theorem dX7_field_5 : decode cX7_field 5 = .ok (.invokevirtual 67, 3) := by decide +kernel
theorem dX7_field_8 : decode cX7_field 8 = .ok (.ifCond .eq 21, 3) := by decide +kernel
theorem dX7_field_29 : decode cX7_field 29 = .ok (.iconst (-1), 1) := by decide +kernel
theorem dX7_field_30 : decode cX7_field 30 = .ok (.ireturn, 1) := by decide +kernel
theorem dX7_told_0 : decode cX7_told 0 = .ok (.aload_n 0, 1) := by decide +kernel
theorem dX7_told_1 : decode cX7_told 1 = .ok (.getfield 12, 3) := by decide +kernel
theorem dX7_told_4 : decode cX7_told 4 = .ok (.iload_n 1, 1) := by decide +kernel
set_option maxRecDepth 20000 in
theorem ggX7_told_X3_isNode : GoodIn wsX7_told wsX3_isNode := goodIn_r _ [6, 7, 8, 9, 10, 11, 12, 13, 56, 57, 58, 59, 60, 61, 62, 63] (by decide +kernel) (by decide +kernel)
set_option maxRecDepth 20000 in
theorem gX7_told_X3_isNode : GoodIn wsX7_told (wsV RX7 67 RX3 yX3_isNode wsX3_isNode) := goodIn_app (goodIn_of _ (by decide +kernel)) ggX7_told_X3_isNode
theorem dX7_told_5 : decode cX7_told 5 = .ok (.invokevirtual 67, 3) := by decide +kernel
theorem dX7_told_8 : decode cX7_told 8 = .ok (.ifCond .eq 13, 3) := by decide +kernel
theorem dX7_told_21 : decode cX7_told 21 = .ok (.iconst (-1), 1) := by decide +kernel
theorem dX7_told_22 : decode cX7_told 22 = .ok (.ireturn, 1) := by decide +kernel
theorem dX7_type_0 : decode cX7_type 0 = .ok (.aload_n 0, 1) := by decide +kernel
theorem dX7_type_1 : decode cX7_type 1 = .ok (.getfield 12, 3) := by decide +kernel
theorem dX7_type_4 : decode cX7_type 4 = .ok (.iload_n 1, 1) := by decide +kernel
set_option maxRecDepth 20000 in
theorem ggX7_type_X3_isNode : GoodIn wsX7_type wsX3_isNode := goodIn_r _ [7, 8, 9, 10, 11, 12, 13, 14, 370, 371, 372, 373, 374, 375, 376, 377] (by decide +kernel) (by decide +kernel)
set_option maxRecDepth 20000 in
theorem gX7_type_X3_isNode : GoodIn wsX7_type (wsV RX7 67 RX3 yX3_isNode wsX3_isNode) := goodIn_app (goodIn_of _ (by decide +kernel)) ggX7_type_X3_isNode
theorem dX7_type_5 : decode cX7_type 5 = .ok (.invokevirtual 67, 3) := by decide +kernel
theorem dX7_type_8 : decode cX7_type 8 = .ok (.ifCond .eq 14, 3) := by decide +kernel
theorem dX7_type_22 : decode cX7_type 22 = .ok (.iconst (-1), 1) := by decide +kernel
theorem dX7_type_23 : decode cX7_type 23 = .ok (.ireturn, 1) := by decide +kernel
theorem dX7_work_0 : decode cX7_work 0 = .ok (.aload_n 0, 1) := by decide +kernel
theorem dX7_work_1 : decode cX7_work 1 = .ok (.getfield 12, 3) := by decide +kernel
theorem dX7_work_4 : decode cX7_work 4 = .ok (.iload_n 1, 1) := by decide +kernel
set_option maxRecDepth 20000 in
theorem ggX7_work_X3_isNode : GoodIn wsX7_work wsX3_isNode := goodIn_r _ [7, 8, 9, 10, 11, 12, 13, 14, 196, 197, 198, 199, 200, 201, 202, 203] (by decide +kernel) (by decide +kernel)
set_option maxRecDepth 20000 in
theorem gX7_work_X3_isNode : GoodIn wsX7_work (wsV RX7 67 RX3 yX3_isNode wsX3_isNode) := goodIn_app (goodIn_of _ (by decide +kernel)) ggX7_work_X3_isNode
theorem dX7_work_5 : decode cX7_work 5 = .ok (.invokevirtual 67, 3) := by decide +kernel
theorem dX7_work_8 : decode cX7_work 8 = .ok (.ifCond .eq 14, 3) := by decide +kernel
theorem dX7_work_22 : decode cX7_work 22 = .ok (.iconst (-1), 1) := by decide +kernel
theorem dX7_work_23 : decode cX7_work 23 = .ok (.ireturn, 1) := by decide +kernel
theorem dX7_where_0 : decode cX7_where 0 = .ok (.aload_n 0, 1) := by decide +kernel
theorem dX7_where_1 : decode cX7_where 1 = .ok (.getfield 21, 3) := by decide +kernel
theorem dX7_where_4 : decode cX7_where 4 = .ok (.getfield 111, 3) := by decide +kernel
theorem dX7_where_7 : decode cX7_where 7 = .ok (.ireturn, 1) := by decide +kernel
theorem dX7_steps_0 : decode cX7_steps 0 = .ok (.aload_n 0, 1) := by decide +kernel
theorem dX7_steps_1 : decode cX7_steps 1 = .ok (.getfield 21, 3) := by decide +kernel
theorem dX7_steps_4 : decode cX7_steps 4 = .ok (.getfield 115, 3) := by decide +kernel
theorem dX7_steps_7 : decode cX7_steps 7 = .ok (.ireturn, 1) := by decide +kernel
theorem dX7_sign_0 : decode cX7_sign 0 = .ok (.aload_n 0, 1) := by decide +kernel
theorem dX7_sign_1 : decode cX7_sign 1 = .ok (.getfield 21, 3) := by decide +kernel
theorem dX7_sign_4 : decode cX7_sign 4 = .ok (.getfield 118, 3) := by decide +kernel
theorem dX7_sign_7 : decode cX7_sign 7 = .ok (.ifCond .ne 17, 3) := by decide +kernel
theorem dX7_sign_24 : decode cX7_sign 24 = .ok (.bipush (-4), 2) := by decide +kernel
theorem dX7_sign_26 : decode cX7_sign 26 = .ok (.ireturn, 1) := by decide +kernel
theorem dX7_variable_0 : decode cX7_variable 0 = .ok (.aload_n 0, 1) := by decide +kernel
theorem dX7_variable_1 : decode cX7_variable 1 = .ok (.getfield 21, 3) := by decide +kernel
theorem dX7_variable_4 : decode cX7_variable 4 = .ok (.getfield 127, 3) := by decide +kernel
theorem dX7_variable_7 : decode cX7_variable 7 = .ok (.iload_n 1, 1) := by decide +kernel
set_option maxRecDepth 20000 in
theorem ggX7_variable_X4_ofVariable : GoodIn wsX7_variable wsX4_ofVariable := goodIn_r _ [8, 9, 10, 11, 12, 13, 14, 15, 16, 51, 52, 53, 54, 55, 56, 57, 58, 59, 60, 61, 62, 63, 64, 49, 50] (by decide +kernel) (by decide +kernel)
set_option maxRecDepth 20000 in
theorem gX7_variable_X4_ofVariable : GoodIn wsX7_variable (wsV RX7 131 RX4 yX4_ofVariable wsX4_ofVariable) := goodIn_app (goodIn_of _ (by decide +kernel)) ggX7_variable_X4_ofVariable
theorem dX7_variable_8 : decode cX7_variable 8 = .ok (.invokevirtual 131, 3) := by decide +kernel
theorem dX7_variable_11 : decode cX7_variable 11 = .ok (.istore_n 3, 1) := by decide +kernel
theorem dX7_variable_12 : decode cX7_variable 12 = .ok (.iload_n 3, 1) := by decide +kernel
theorem dX7_variable_13 : decode cX7_variable 13 = .ok (.bipush (-9), 2) := by decide +kernel
theorem dX7_variable_15 : decode cX7_variable 15 = .ok (.if_icmp .ne 5, 3) := by decide +kernel
theorem dX7_variable_18 : decode cX7_variable 18 = .ok (.iconst (-1), 1) := by decide +kernel
theorem dX7_variable_19 : decode cX7_variable 19 = .ok (.ireturn, 1) := by decide +kernel
theorem dX7_bound_0 : decode cX7_bound 0 = .ok (.aload_n 0, 1) := by decide +kernel
theorem dX7_bound_1 : decode cX7_bound 1 = .ok (.getfield 21, 3) := by decide +kernel
theorem dX7_bound_4 : decode cX7_bound 4 = .ok (.getfield 127, 3) := by decide +kernel
theorem dX7_bound_7 : decode cX7_bound 7 = .ok (.iload_n 1, 1) := by decide +kernel
set_option maxRecDepth 20000 in
theorem ggX7_bound_X4_ofVariable : GoodIn wsX7_bound wsX4_ofVariable := goodIn_r _ [9, 10, 11, 12, 13, 14, 15, 16, 17, 174, 175, 176, 177, 178, 179, 180, 181, 182, 183, 184, 185, 186, 187, 188, 189] (by decide +kernel) (by decide +kernel)
set_option maxRecDepth 20000 in
theorem gX7_bound_X4_ofVariable : GoodIn wsX7_bound (wsV RX7 131 RX4 yX4_ofVariable wsX4_ofVariable) := goodIn_app (goodIn_of _ (by decide +kernel)) ggX7_bound_X4_ofVariable
theorem dX7_bound_8 : decode cX7_bound 8 = .ok (.invokevirtual 131, 3) := by decide +kernel
theorem dX7_bound_11 : decode cX7_bound 11 = .ok (.istore 5, 2) := by decide +kernel
theorem dX7_bound_13 : decode cX7_bound 13 = .ok (.iload 5, 2) := by decide +kernel
theorem dX7_bound_15 : decode cX7_bound 15 = .ok (.bipush (-9), 2) := by decide +kernel
theorem dX7_bound_17 : decode cX7_bound 17 = .ok (.if_icmp .ne 5, 3) := by decide +kernel
theorem dX7_bound_20 : decode cX7_bound 20 = .ok (.iconst (-1), 1) := by decide +kernel
theorem dX7_bound_21 : decode cX7_bound 21 = .ok (.ireturn, 1) := by decide +kernel
theorem dX7_value_0 : decode cX7_value 0 = .ok (.aload_n 0, 1) := by decide +kernel
theorem dX7_value_1 : decode cX7_value 1 = .ok (.getfield 28, 3) := by decide +kernel
theorem dX7_value_4 : decode cX7_value 4 = .ok (.getfield 165, 3) := by decide +kernel
theorem dX7_value_7 : decode cX7_value 7 = .ok (.ifCond .ne 17, 3) := by decide +kernel
theorem dX7_value_24 : decode cX7_value 24 = .ok (.bipush (-9), 2) := by decide +kernel
theorem dX7_value_26 : decode cX7_value 26 = .ok (.ireturn, 1) := by decide +kernel
theorem dX7_worked_0 : decode cX7_worked 0 = .ok (.aload_n 0, 1) := by decide +kernel
theorem dX7_worked_1 : decode cX7_worked 1 = .ok (.getfield 28, 3) := by decide +kernel
theorem dX7_worked_4 : decode cX7_worked 4 = .ok (.getfield 167, 3) := by decide +kernel
theorem dX7_worked_7 : decode cX7_worked 7 = .ok (.ireturn, 1) := by decide +kernel
theorem dX7_stuck_0 : decode cX7_stuck 0 = .ok (.aload_n 0, 1) := by decide +kernel
theorem dX7_stuck_1 : decode cX7_stuck 1 = .ok (.getfield 28, 3) := by decide +kernel
theorem dX7_stuck_4 : decode cX7_stuck 4 = .ok (.getfield 170, 3) := by decide +kernel
theorem dX7_stuck_7 : decode cX7_stuck 7 = .ok (.ireturn, 1) := by decide +kernel
theorem dX7_count_0 : decode cX7_count 0 = .ok (.iload_n 1, 1) := by decide +kernel
theorem dX7_count_1 : decode cX7_count 1 = .ok (.tableswitch 66 0 3 #[31, 39, 50, 58], 31) := by decide +kernel
theorem dX7_count_32 : decode cX7_count 32 = .ok (.aload_n 0, 1) := by decide +kernel
theorem dX7_count_33 : decode cX7_count 33 = .ok (.getfield 12, 3) := by decide +kernel
set_option maxRecDepth 20000 in
theorem ggX7_count_X3_size : GoodIn wsX7_count wsX3_size := goodIn_r _ [10, 11, 12, 78, 79, 80, 81, 82, 83, 84, 85] (by decide +kernel) (by decide +kernel)
set_option maxRecDepth 20000 in
theorem gX7_count_X3_size : GoodIn wsX7_count (wsV RX7 171 RX3 yX3_size wsX3_size) := goodIn_app (goodIn_of _ (by decide +kernel)) ggX7_count_X3_size
theorem dX7_count_36 : decode cX7_count 36 = .ok (.invokevirtual 171, 3) := by decide +kernel
theorem dX7_count_39 : decode cX7_count 39 = .ok (.ireturn, 1) := by decide +kernel
theorem dX7_count_40 : decode cX7_count 40 = .ok (.aload_n 0, 1) := by decide +kernel
theorem dX7_count_41 : decode cX7_count 41 = .ok (.getfield 21, 3) := by decide +kernel
theorem dX7_count_44 : decode cX7_count 44 = .ok (.getfield 127, 3) := by decide +kernel
set_option maxRecDepth 20000 in
theorem ggX7_count_X4_variableCount : GoodIn wsX7_count wsX4_variableCount := goodIn_r _ [17, 18, 19, 86, 87, 88, 89, 90, 91, 92, 93, 94, 95, 96, 97, 98, 99, 84, 85] (by decide +kernel) (by decide +kernel)
set_option maxRecDepth 20000 in
theorem gX7_count_X4_variableCount : GoodIn wsX7_count (wsV RX7 174 RX4 yX4_variableCount wsX4_variableCount) := goodIn_app (goodIn_of _ (by decide +kernel)) ggX7_count_X4_variableCount
theorem dX7_count_47 : decode cX7_count 47 = .ok (.invokevirtual 174, 3) := by decide +kernel
theorem dX7_count_50 : decode cX7_count 50 = .ok (.ireturn, 1) := by decide +kernel
theorem dX7_count_51 : decode cX7_count 51 = .ok (.aload_n 0, 1) := by decide +kernel
theorem dX7_count_52 : decode cX7_count 52 = .ok (.getfield 12, 3) := by decide +kernel
set_option maxRecDepth 20000 in
theorem ggX7_count_X3_freeCount : GoodIn wsX7_count wsX3_freeCount := goodIn_r _ [23, 24, 7, 8, 9, 10, 11, 12, 25, 26, 27, 28, 29, 30, 31, 32, 33, 34, 35, 36, 37, 38, 39, 40, 41, 42, 43, 44, 78, 79, 80, 81, 82, 83, 84, 85] (by decide +kernel) (by decide +kernel)
set_option maxRecDepth 20000 in
theorem gX7_count_X3_freeCount : GoodIn wsX7_count (wsV RX7 177 RX3 yX3_freeCount wsX3_freeCount) := goodIn_app (goodIn_of _ (by decide +kernel)) ggX7_count_X3_freeCount
theorem dX7_count_55 : decode cX7_count 55 = .ok (.invokevirtual 177, 3) := by decide +kernel
theorem dX7_count_58 : decode cX7_count 58 = .ok (.ireturn, 1) := by decide +kernel
theorem dX7_count_59 : decode cX7_count 59 = .ok (.aload_n 0, 1) := by decide +kernel
theorem dX7_count_60 : decode cX7_count 60 = .ok (.getfield 28, 3) := by decide +kernel
theorem dX7_count_63 : decode cX7_count 63 = .ok (.getfield 165, 3) := by decide +kernel
theorem dX7_count_66 : decode cX7_count 66 = .ok (.ireturn, 1) := by decide +kernel
theorem dX7_count_67 : decode cX7_count 67 = .ok (.iconst (-1), 1) := by decide +kernel
theorem dX7_count_68 : decode cX7_count 68 = .ok (.ireturn, 1) := by decide +kernel
theorem dX7_digest_0 : decode cX7_digest 0 = .ok (.ldc2_w 180, 3) := by decide +kernel
theorem dX7_digest_3 : decode cX7_digest 3 = .ok (.lstore_n 1, 1) := by decide +kernel
theorem dX7_digest_4 : decode cX7_digest 4 = .ok (.aload_n 0, 1) := by decide +kernel
theorem dX7_digest_5 : decode cX7_digest 5 = .ok (.getfield 12, 3) := by decide +kernel
set_option maxRecDepth 20000 in
theorem ggX7_digest_X3_size : GoodIn wsX7_digest wsX3_size := goodIn_r _ [10, 11, 12, 115, 116, 117, 118, 119, 120, 121, 122] (by decide +kernel) (by decide +kernel)
set_option maxRecDepth 20000 in
theorem gX7_digest_X3_size : GoodIn wsX7_digest (wsV RX7 171 RX3 yX3_size wsX3_size) := goodIn_app (goodIn_of _ (by decide +kernel)) ggX7_digest_X3_size
theorem dX7_digest_8 : decode cX7_digest 8 = .ok (.invokevirtual 171, 3) := by decide +kernel
theorem dX7_digest_11 : decode cX7_digest 11 = .ok (.istore_n 3, 1) := by decide +kernel
theorem dX7_digest_12 : decode cX7_digest 12 = .ok (.iconst 0, 1) := by decide +kernel
theorem dX7_digest_13 : decode cX7_digest 13 = .ok (.istore 4, 2) := by decide +kernel
theorem dX7_digest_15 : decode cX7_digest 15 = .ok (.iload 4, 2) := by decide +kernel
theorem dX7_digest_17 : decode cX7_digest 17 = .ok (.iload_n 3, 1) := by decide +kernel
theorem dX7_digest_18 : decode cX7_digest 18 = .ok (.if_icmp .ge 41, 3) := by decide +kernel
theorem dX7_digest_59 : decode cX7_digest 59 = .ok (.aload_n 0, 1) := by decide +kernel
theorem dX7_digest_60 : decode cX7_digest 60 = .ok (.getfield 21, 3) := by decide +kernel
theorem dX7_digest_63 : decode cX7_digest 63 = .ok (.getfield 127, 3) := by decide +kernel
set_option maxRecDepth 20000 in
theorem ggX7_digest_X4_variableCount : GoodIn wsX7_digest wsX4_variableCount := goodIn_r _ [70, 71, 72, 123, 124, 125, 126, 127, 128, 129, 130, 131, 132, 133, 134, 135, 136, 121, 122] (by decide +kernel) (by decide +kernel)
set_option maxRecDepth 20000 in
theorem gX7_digest_X4_variableCount : GoodIn wsX7_digest (wsV RX7 174 RX4 yX4_variableCount wsX4_variableCount) := goodIn_app (goodIn_of _ (by decide +kernel)) ggX7_digest_X4_variableCount
theorem dX7_digest_66 : decode cX7_digest 66 = .ok (.invokevirtual 174, 3) := by decide +kernel
theorem dX7_digest_69 : decode cX7_digest 69 = .ok (.istore 4, 2) := by decide +kernel
theorem dX7_digest_71 : decode cX7_digest 71 = .ok (.iconst 0, 1) := by decide +kernel
theorem dX7_digest_72 : decode cX7_digest 72 = .ok (.istore 5, 2) := by decide +kernel
theorem dX7_digest_74 : decode cX7_digest 74 = .ok (.iload 5, 2) := by decide +kernel
theorem dX7_digest_76 : decode cX7_digest 76 = .ok (.iload 4, 2) := by decide +kernel
theorem dX7_digest_78 : decode cX7_digest 78 = .ok (.if_icmp .ge 40, 3) := by decide +kernel
theorem dX7_digest_118 : decode cX7_digest 118 = .ok (.lload_n 1, 1) := by decide +kernel
theorem dX7_digest_119 : decode cX7_digest 119 = .ok (.lreturn, 1) := by decide +kernel
set_option maxHeartbeats 4000000 in
set_option maxRecDepth 100000 in
/-- field, of a fresh object -/
theorem c_x_field (l : Launch) (dC : Nat → ClassId) (dI : Nat → Nat → Nat) (cI : ClassId) (h0 : Nat) (tr : Nat) (ty : Nat) (wk : Nat) (bs : Nat) (td : Nat → Nat) (te : Nat → Nat) (r : Int32) (x : Int32) (pt : Int32) (sz : Nat) : Met l yX7_field wsX7_field ({ frames := 2, cells := 0, slots := 0, locals := 42 }) (va_Pc [.ref h0, .int r, .int x, .int pt] (fun U => U.heap.size = sz ∧ va_P (dC, dI) vwCl [(h0, .inr (7, [.ref tr, .ref ty, .ref wk, .ref bs])), (tr, .inr (3, [.ref (td 0), .ref (td 1), .ref (td 2), .ref (td 3), .ref (td 4), .ref (td 5)])), (td 0, .inr (0, [.ref (te 0), .int (nI 0)]))] U.heap ∧ va_K (dC, dI) vwCl [(cI, .int)] U ∧ va_D (fun _ => True) [(h0, .inr (7, [.ref tr, .ref ty, .ref wk, .ref bs])), (tr, .inr (3, [.ref (td 0), .ref (td 1), .ref (td 2), .ref (td 3), .ref (td 4), .ref (td 5)])), (td 0, .inr (0, [.ref (te 0), .int (nI 0)]))])) (va_Qi (fun (r : Int32) (_ : Unit) => r = (-1)) (fun (_ : Unit) (t : State) => va_P (dC, dI) vwCl [] t.heap ∧ va_K (dC, dI) vwCl [(cI, .int)] t ∧ va_D (va_A [(h0, .inr (7, [.ref tr, .ref ty, .ref wk, .ref bs])), (tr, .inr (3, [.ref (td 0), .ref (td 1), .ref (td 2), .ref (td 3), .ref (td 4), .ref (td 5)])), (td 0, .inr (0, [.ref (te 0), .int (nI 0)]))] sz) []) (va_A [(h0, .inr (7, [.ref tr, .ref ty, .ref wk, .ref bs])), (tr, .inr (3, [.ref (td 0), .ref (td 1), .ref (td 2), .ref (td 3), .ref (td 4), .ref (td 5)])), (td 0, .inr (0, [.ref (te 0), .int (nI 0)]))] sz)) 0 0 (va_A [(h0, .inr (7, [.ref tr, .ref ty, .ref wk, .ref bs])), (tr, .inr (3, [.ref (td 0), .ref (td 1), .ref (td 2), .ref (td 3), .ref (td 4), .ref (td 5)])), (td 0, .inr (0, [.ref (te 0), .int (nI 0)]))] sz) := by
  refine Met.ofW (cc := cX7_field) (maxL := 4) (ret := (some .int)) (by decide) rfl ?_
  intro p e s m args below meth c s₁ B hml hv
  obtain ⟨rfl, hsz, hP, hK, hD0⟩ := hv
  have hx := B.exec
  have hb := B.bytes
  have hr := B.returns
  have hts := atoms_spec (ws := wsX7_field) B.pre
  have hown : s.vm.findClass RX7 = some m.cls := findClass_of_methodNamed B.named
  have hlocks := B.notSynchronized
  subst hsz
  have hD := hD0.self (sz := s.heap.size)
  generalize hAe : va_A [(h0, .inr (7, [.ref tr, .ref ty, .ref wk, .ref bs])), (tr, .inr (3, [.ref (td 0), .ref (td 1), .ref (td 2), .ref (td 3), .ref (td 4), .ref (td 5)])), (td 0, .inr (0, [.ref (te 0), .int (nI 0)]))] s.heap.size = A at hD ⊢
  have hA : ∀ q : Nat, s.heap.size ≤ q → A q := fun q h => by rw [← hAe]; exact Or.inr h
  have hS : va_S A s.heap s.heap [] := va_S.rf
  have hP : va_P (dC, dI) vwCl [(h0, .inr (7, [.ref tr, .ref ty, .ref wk, .ref bs])), (tr, .inr (3, [.ref (td 0), .ref (td 1), .ref (td 2), .ref (td 3), .ref (td 4), .ref (td 5)])), (td 0, .inr (0, [.ref (te 0), .int (nI 0)]))] s.heap := hP
  have hl := lv_entry ([.ref h0, .int r, .int x, .int pt]) (n := 4) (Nat.le_of_ble_eq_true rfl)
  rw [lg_entry_eq]
  generalize (lg_sl ([.ref h0, .int r, .int x, .int pt]) ++ List.replicate (4 - (lg_sl ([.ref h0, .int r, .int x, .int pt])).length) Slot.unset).toArray = ls at hl ⊢
  have hl : lv_has ls 4 [(0, .ref h0), (1, .int r), (2, .int x), (3, .int pt)] := hl
  obtain ⟨H, hHe⟩ : ∃ H : Heap, H = s.heap := ⟨_, rfl⟩
  rw [← hHe] at hP ⊢
  have hS : va_S A s.heap H [] := by rw [hHe]; exact va_S.rf
  refine lv_aload_n hx hb dX7_field_0 rfl (lv_at hl 0 rfl) ?_
  refine va_get (D := (dC, dI)) (ci := 7) (v := .ref tr) (C := RX7) (T := TX7) (N := 4) hx hb hts (fun w h => List.mem_cons_of_mem _ (List.mem_append_left _ (List.mem_append_left _ (List.mem_append_left _ (List.mem_append_left _ (List.mem_append_right _ h)))))) hown hK hP 0 rfl rfl 0 (by decide) (hts (.fieldLink RX7 12 "PolarTypes" "tree" "LPolarTypes$Tree;") (List.mem_of_getElem? (i := 1) (by decide +kernel))) (fun _ h9 => h9) rfl dX7_field_1 ?_
  refine lv_iload_n hx hb dX7_field_4 rfl (lv_at hl 1 rfl) ?_
  have hPc := hP.sub (ws' := [(tr, .inr (3, [.ref (td 0), .ref (td 1), .ref (td 2), .ref (td 3), .ref (td 4), .ref (td 5)])), (td 0, .inr (0, [.ref (te 0), .int (nI 0)]))]) [1, 2] rfl
  have hDc := hD.sub (ws' := [(tr, .inr (3, [.ref (td 0), .ref (td 1), .ref (td 2), .ref (td 3), .ref (td 4), .ref (td 5)])), (td 0, .inr (0, [.ref (te 0), .int (nI 0)]))]) [1, 2] (by decide) rfl
  have hFc := va_free (wc := [(tr, .inr (3, [.ref (td 0), .ref (td 1), .ref (td 2), .ref (td 3), .ref (td 4), .ref (td 5)])), (td 0, .inr (0, [.ref (te 0), .int (nI 0)]))]) hD hS hA [1, 2] rfl
  refine va_calli (va_runV (As := [.int r]) (rest := []) ⟨hx, hb, hml, hown, hts⟩ (c_isNode0 l dC dI cI tr td (te 0) r H.size) (cwV 1 hts gX7_field_X3_isNode rfl rfl rfl (by decide +kernel) ⟨Nat.le_of_ble_eq_true rfl, Nat.le_of_ble_eq_true rfl⟩) ⟨fun a U g mk q => by obtain ⟨q0, q1, qP, qK, qD⟩ := q; exact ⟨q0, q1, qP, va_K.moved (u := U) (U := U.calling g mk a) (Vm.Alike.refl U.vm) qK, qD⟩, va_recv hK hPc (ci := 3) (q0 := 0) rfl rfl, fun U hU hW => ⟨rfl, by rw [hU], by rw [hU]; exact hPc, va_K.moved hW.alike hK, hDc.weaken (fun _ _ _ _ => trivial)⟩⟩ rfl rfl hl.1 rfl (lv_room (Nat.le_of_ble_eq_true rfl)) dX7_field_5 ⟨Nat.le_of_ble_eq_true rfl, Nat.le_of_ble_eq_true rfl⟩) hS (fun q _ h => hFc q h) hFc (fun r_1 u t H1 locs ht hvm hw hB hz1 hk1 hS => ?_)
  obtain ⟨hP1, hK1, hD1⟩ := hB
  rw [ht] at hP1
  obtain ⟨hP, hD⟩ := va_join (wr := [(h0, .inr (7, [.ref tr, .ref ty, .ref wk, .ref bs]))]) (w1 := [(tr, .inr (3, [.ref (td 0), .ref (td 1), .ref (td 2), .ref (td 3), .ref (td 4), .ref (td 5)])), (td 0, .inr (0, [.ref (te 0), .int (nI 0)]))]) hP hD [1, 2] [0] rfl rfl (by decide) (by decide) hk1 hFc hP1 hD1
  generalize H1 = H at hP hS ⊢
  obtain rfl : r_1 = 0 := hw
  have hP : va_P (dC, dI) vwCl [(h0, .inr (7, [.ref tr, .ref ty, .ref wk, .ref bs])), (tr, .inr (3, [.ref (td 0), .ref (td 1), .ref (td 2), .ref (td 3), .ref (td 4), .ref (td 5)])), (td 0, .inr (0, [.ref (te 0), .int (nI 0)]))] H := hP
  have hD : va_D A [(h0, .inr (7, [.ref tr, .ref ty, .ref wk, .ref bs])), (tr, .inr (3, [.ref (td 0), .ref (td 1), .ref (td 2), .ref (td 3), .ref (td 4), .ref (td 5)])), (td 0, .inr (0, [.ref (te 0), .int (nI 0)]))] := hD
  refine W.widen (k := 0) (n := 0) (Nat.le_of_ble_eq_true rfl) (Nat.le_of_ble_eq_true rfl) ?_
  refine lv_if_eq (tgt := 29) hx hb dX7_field_8 (by decide) (fun c_2 => ?_) (fun c_2 => absurd (by decide) c_2)
  refine lv_iconst (v := (-1)) hx hb dX7_field_29 (by decide) ?_
  have hP9 := hP.sub (ws' := []) [] rfl
  have hD9 := hD.sub (ws' := []) [] (by decide) rfl
  refine W.widen (k := 0) (n := 0) (Nat.le_of_ble_eq_true rfl) (Nat.le_of_ble_eq_true rfl) ?_
  exact W.iret (v := (-1)) hx hb hr (fun t ht hW => ⟨⟨(-1), (), rfl, rfl, by rw [ht]; exact hP9, va_K.moved hW.alike hK, hD9⟩, hS.F ht⟩) hS.2.2 dX7_field_30

set_option maxHeartbeats 4000000 in
set_option maxRecDepth 100000 in
/-- told, of a fresh object -/
theorem c_x_told (l : Launch) (dC : Nat → ClassId) (dI : Nat → Nat → Nat) (cI : ClassId) (h0 : Nat) (tr : Nat) (ty : Nat) (wk : Nat) (bs : Nat) (td : Nat → Nat) (te : Nat → Nat) (n : Int32) (w : Int32) (sz : Nat) : Met l yX7_told wsX7_told ({ frames := 2, cells := 0, slots := 0, locals := 42 }) (va_Pc [.ref h0, .int n, .int w] (fun U => U.heap.size = sz ∧ va_P (dC, dI) vwCl [(h0, .inr (7, [.ref tr, .ref ty, .ref wk, .ref bs])), (tr, .inr (3, [.ref (td 0), .ref (td 1), .ref (td 2), .ref (td 3), .ref (td 4), .ref (td 5)])), (td 0, .inr (0, [.ref (te 0), .int (nI 0)]))] U.heap ∧ va_K (dC, dI) vwCl [(cI, .int)] U ∧ va_D (fun _ => True) [(h0, .inr (7, [.ref tr, .ref ty, .ref wk, .ref bs])), (tr, .inr (3, [.ref (td 0), .ref (td 1), .ref (td 2), .ref (td 3), .ref (td 4), .ref (td 5)])), (td 0, .inr (0, [.ref (te 0), .int (nI 0)]))])) (va_Qi (fun (r : Int32) (_ : Unit) => r = (-1)) (fun (_ : Unit) (t : State) => va_P (dC, dI) vwCl [] t.heap ∧ va_K (dC, dI) vwCl [(cI, .int)] t ∧ va_D (va_A [(h0, .inr (7, [.ref tr, .ref ty, .ref wk, .ref bs])), (tr, .inr (3, [.ref (td 0), .ref (td 1), .ref (td 2), .ref (td 3), .ref (td 4), .ref (td 5)])), (td 0, .inr (0, [.ref (te 0), .int (nI 0)]))] sz) []) (va_A [(h0, .inr (7, [.ref tr, .ref ty, .ref wk, .ref bs])), (tr, .inr (3, [.ref (td 0), .ref (td 1), .ref (td 2), .ref (td 3), .ref (td 4), .ref (td 5)])), (td 0, .inr (0, [.ref (te 0), .int (nI 0)]))] sz)) 0 0 (va_A [(h0, .inr (7, [.ref tr, .ref ty, .ref wk, .ref bs])), (tr, .inr (3, [.ref (td 0), .ref (td 1), .ref (td 2), .ref (td 3), .ref (td 4), .ref (td 5)])), (td 0, .inr (0, [.ref (te 0), .int (nI 0)]))] sz) := by
  refine Met.ofW (cc := cX7_told) (maxL := 3) (ret := (some .int)) (by decide) rfl ?_
  intro p e s m args below meth c s₁ B hml hv
  obtain ⟨rfl, hsz, hP, hK, hD0⟩ := hv
  have hx := B.exec
  have hb := B.bytes
  have hr := B.returns
  have hts := atoms_spec (ws := wsX7_told) B.pre
  have hown : s.vm.findClass RX7 = some m.cls := findClass_of_methodNamed B.named
  have hlocks := B.notSynchronized
  subst hsz
  have hD := hD0.self (sz := s.heap.size)
  generalize hAe : va_A [(h0, .inr (7, [.ref tr, .ref ty, .ref wk, .ref bs])), (tr, .inr (3, [.ref (td 0), .ref (td 1), .ref (td 2), .ref (td 3), .ref (td 4), .ref (td 5)])), (td 0, .inr (0, [.ref (te 0), .int (nI 0)]))] s.heap.size = A at hD ⊢
  have hA : ∀ q : Nat, s.heap.size ≤ q → A q := fun q h => by rw [← hAe]; exact Or.inr h
  have hS : va_S A s.heap s.heap [] := va_S.rf
  have hP : va_P (dC, dI) vwCl [(h0, .inr (7, [.ref tr, .ref ty, .ref wk, .ref bs])), (tr, .inr (3, [.ref (td 0), .ref (td 1), .ref (td 2), .ref (td 3), .ref (td 4), .ref (td 5)])), (td 0, .inr (0, [.ref (te 0), .int (nI 0)]))] s.heap := hP
  have hl := lv_entry ([.ref h0, .int n, .int w]) (n := 3) (Nat.le_of_ble_eq_true rfl)
  rw [lg_entry_eq]
  generalize (lg_sl ([.ref h0, .int n, .int w]) ++ List.replicate (3 - (lg_sl ([.ref h0, .int n, .int w])).length) Slot.unset).toArray = ls at hl ⊢
  have hl : lv_has ls 3 [(0, .ref h0), (1, .int n), (2, .int w)] := hl
  obtain ⟨H, hHe⟩ : ∃ H : Heap, H = s.heap := ⟨_, rfl⟩
  rw [← hHe] at hP ⊢
  have hS : va_S A s.heap H [] := by rw [hHe]; exact va_S.rf
  refine lv_aload_n hx hb dX7_told_0 rfl (lv_at hl 0 rfl) ?_
  refine va_get (D := (dC, dI)) (ci := 7) (v := .ref tr) (C := RX7) (T := TX7) (N := 4) hx hb hts (fun w h => List.mem_cons_of_mem _ (List.mem_append_left _ (List.mem_append_left _ (List.mem_append_right _ h)))) hown hK hP 0 rfl rfl 0 (by decide) (hts (.fieldLink RX7 12 "PolarTypes" "tree" "LPolarTypes$Tree;") (List.mem_of_getElem? (i := 1) (by decide +kernel))) (fun _ h9 => h9) rfl dX7_told_1 ?_
  refine lv_iload_n hx hb dX7_told_4 rfl (lv_at hl 1 rfl) ?_
  have hPc := hP.sub (ws' := [(tr, .inr (3, [.ref (td 0), .ref (td 1), .ref (td 2), .ref (td 3), .ref (td 4), .ref (td 5)])), (td 0, .inr (0, [.ref (te 0), .int (nI 0)]))]) [1, 2] rfl
  have hDc := hD.sub (ws' := [(tr, .inr (3, [.ref (td 0), .ref (td 1), .ref (td 2), .ref (td 3), .ref (td 4), .ref (td 5)])), (td 0, .inr (0, [.ref (te 0), .int (nI 0)]))]) [1, 2] (by decide) rfl
  have hFc := va_free (wc := [(tr, .inr (3, [.ref (td 0), .ref (td 1), .ref (td 2), .ref (td 3), .ref (td 4), .ref (td 5)])), (td 0, .inr (0, [.ref (te 0), .int (nI 0)]))]) hD hS hA [1, 2] rfl
  refine va_calli (va_runV (As := [.int n]) (rest := []) ⟨hx, hb, hml, hown, hts⟩ (c_isNode0 l dC dI cI tr td (te 0) n H.size) (cwV 1 hts gX7_told_X3_isNode rfl rfl rfl (by decide +kernel) ⟨Nat.le_of_ble_eq_true rfl, Nat.le_of_ble_eq_true rfl⟩) ⟨fun a U g mk q => by obtain ⟨q0, q1, qP, qK, qD⟩ := q; exact ⟨q0, q1, qP, va_K.moved (u := U) (U := U.calling g mk a) (Vm.Alike.refl U.vm) qK, qD⟩, va_recv hK hPc (ci := 3) (q0 := 0) rfl rfl, fun U hU hW => ⟨rfl, by rw [hU], by rw [hU]; exact hPc, va_K.moved hW.alike hK, hDc.weaken (fun _ _ _ _ => trivial)⟩⟩ rfl rfl hl.1 rfl (lv_room (Nat.le_of_ble_eq_true rfl)) dX7_told_5 ⟨Nat.le_of_ble_eq_true rfl, Nat.le_of_ble_eq_true rfl⟩) hS (fun q _ h => hFc q h) hFc (fun r_1 u t H1 locs ht hvm hw hB hz1 hk1 hS => ?_)
  obtain ⟨hP1, hK1, hD1⟩ := hB
  rw [ht] at hP1
  obtain ⟨hP, hD⟩ := va_join (wr := [(h0, .inr (7, [.ref tr, .ref ty, .ref wk, .ref bs]))]) (w1 := [(tr, .inr (3, [.ref (td 0), .ref (td 1), .ref (td 2), .ref (td 3), .ref (td 4), .ref (td 5)])), (td 0, .inr (0, [.ref (te 0), .int (nI 0)]))]) hP hD [1, 2] [0] rfl rfl (by decide) (by decide) hk1 hFc hP1 hD1
  generalize H1 = H at hP hS ⊢
  obtain rfl : r_1 = 0 := hw
  have hP : va_P (dC, dI) vwCl [(h0, .inr (7, [.ref tr, .ref ty, .ref wk, .ref bs])), (tr, .inr (3, [.ref (td 0), .ref (td 1), .ref (td 2), .ref (td 3), .ref (td 4), .ref (td 5)])), (td 0, .inr (0, [.ref (te 0), .int (nI 0)]))] H := hP
  have hD : va_D A [(h0, .inr (7, [.ref tr, .ref ty, .ref wk, .ref bs])), (tr, .inr (3, [.ref (td 0), .ref (td 1), .ref (td 2), .ref (td 3), .ref (td 4), .ref (td 5)])), (td 0, .inr (0, [.ref (te 0), .int (nI 0)]))] := hD
  refine W.widen (k := 0) (n := 0) (Nat.le_of_ble_eq_true rfl) (Nat.le_of_ble_eq_true rfl) ?_
  refine lv_if_eq (tgt := 21) hx hb dX7_told_8 (by decide) (fun c_2 => ?_) (fun c_2 => absurd (by decide) c_2)
  refine lv_iconst (v := (-1)) hx hb dX7_told_21 (by decide) ?_
  have hP9 := hP.sub (ws' := []) [] rfl
  have hD9 := hD.sub (ws' := []) [] (by decide) rfl
  refine W.widen (k := 0) (n := 0) (Nat.le_of_ble_eq_true rfl) (Nat.le_of_ble_eq_true rfl) ?_
  exact W.iret (v := (-1)) hx hb hr (fun t ht hW => ⟨⟨(-1), (), rfl, rfl, by rw [ht]; exact hP9, va_K.moved hW.alike hK, hD9⟩, hS.F ht⟩) hS.2.2 dX7_told_22

set_option maxHeartbeats 4000000 in
set_option maxRecDepth 100000 in
/-- type, of a fresh object -/
theorem c_x_type (l : Launch) (dC : Nat → ClassId) (dI : Nat → Nat → Nat) (cI : ClassId) (h0 : Nat) (tr : Nat) (ty : Nat) (wk : Nat) (bs : Nat) (td : Nat → Nat) (te : Nat → Nat) (n : Int32) (sz : Nat) : Met l yX7_type wsX7_type ({ frames := 2, cells := 0, slots := 0, locals := 42 }) (va_Pc [.ref h0, .int n] (fun U => U.heap.size = sz ∧ va_P (dC, dI) vwCl [(h0, .inr (7, [.ref tr, .ref ty, .ref wk, .ref bs])), (tr, .inr (3, [.ref (td 0), .ref (td 1), .ref (td 2), .ref (td 3), .ref (td 4), .ref (td 5)])), (td 0, .inr (0, [.ref (te 0), .int (nI 0)]))] U.heap ∧ va_K (dC, dI) vwCl [(cI, .int)] U ∧ va_D (fun _ => True) [(h0, .inr (7, [.ref tr, .ref ty, .ref wk, .ref bs])), (tr, .inr (3, [.ref (td 0), .ref (td 1), .ref (td 2), .ref (td 3), .ref (td 4), .ref (td 5)])), (td 0, .inr (0, [.ref (te 0), .int (nI 0)]))])) (va_Qi (fun (r : Int32) (_ : Unit) => r = (-1)) (fun (_ : Unit) (t : State) => va_P (dC, dI) vwCl [] t.heap ∧ va_K (dC, dI) vwCl [(cI, .int)] t ∧ va_D (va_A [(h0, .inr (7, [.ref tr, .ref ty, .ref wk, .ref bs])), (tr, .inr (3, [.ref (td 0), .ref (td 1), .ref (td 2), .ref (td 3), .ref (td 4), .ref (td 5)])), (td 0, .inr (0, [.ref (te 0), .int (nI 0)]))] sz) []) (va_A [(h0, .inr (7, [.ref tr, .ref ty, .ref wk, .ref bs])), (tr, .inr (3, [.ref (td 0), .ref (td 1), .ref (td 2), .ref (td 3), .ref (td 4), .ref (td 5)])), (td 0, .inr (0, [.ref (te 0), .int (nI 0)]))] sz)) 0 0 (va_A [(h0, .inr (7, [.ref tr, .ref ty, .ref wk, .ref bs])), (tr, .inr (3, [.ref (td 0), .ref (td 1), .ref (td 2), .ref (td 3), .ref (td 4), .ref (td 5)])), (td 0, .inr (0, [.ref (te 0), .int (nI 0)]))] sz) := by
  refine Met.ofW (cc := cX7_type) (maxL := 2) (ret := (some .int)) (by decide) rfl ?_
  intro p e s m args below meth c s₁ B hml hv
  obtain ⟨rfl, hsz, hP, hK, hD0⟩ := hv
  have hx := B.exec
  have hb := B.bytes
  have hr := B.returns
  have hts := atoms_spec (ws := wsX7_type) B.pre
  have hown : s.vm.findClass RX7 = some m.cls := findClass_of_methodNamed B.named
  have hlocks := B.notSynchronized
  subst hsz
  have hD := hD0.self (sz := s.heap.size)
  generalize hAe : va_A [(h0, .inr (7, [.ref tr, .ref ty, .ref wk, .ref bs])), (tr, .inr (3, [.ref (td 0), .ref (td 1), .ref (td 2), .ref (td 3), .ref (td 4), .ref (td 5)])), (td 0, .inr (0, [.ref (te 0), .int (nI 0)]))] s.heap.size = A at hD ⊢
  have hA : ∀ q : Nat, s.heap.size ≤ q → A q := fun q h => by rw [← hAe]; exact Or.inr h
  have hS : va_S A s.heap s.heap [] := va_S.rf
  have hP : va_P (dC, dI) vwCl [(h0, .inr (7, [.ref tr, .ref ty, .ref wk, .ref bs])), (tr, .inr (3, [.ref (td 0), .ref (td 1), .ref (td 2), .ref (td 3), .ref (td 4), .ref (td 5)])), (td 0, .inr (0, [.ref (te 0), .int (nI 0)]))] s.heap := hP
  have hl := lv_entry ([.ref h0, .int n]) (n := 2) (Nat.le_of_ble_eq_true rfl)
  rw [lg_entry_eq]
  generalize (lg_sl ([.ref h0, .int n]) ++ List.replicate (2 - (lg_sl ([.ref h0, .int n])).length) Slot.unset).toArray = ls at hl ⊢
  have hl : lv_has ls 2 [(0, .ref h0), (1, .int n)] := hl
  obtain ⟨H, hHe⟩ : ∃ H : Heap, H = s.heap := ⟨_, rfl⟩
  rw [← hHe] at hP ⊢
  have hS : va_S A s.heap H [] := by rw [hHe]; exact va_S.rf
  refine lv_aload_n hx hb dX7_type_0 rfl (lv_at hl 0 rfl) ?_
  refine va_get (D := (dC, dI)) (ci := 7) (v := .ref tr) (C := RX7) (T := TX7) (N := 4) hx hb hts (fun w h => List.mem_cons_of_mem _ (List.mem_append_left _ (List.mem_append_left _ (List.mem_append_left _ (List.mem_append_left _ (List.mem_append_left _ (List.mem_append_left _ (List.mem_append_right _ h)))))))) hown hK hP 0 rfl rfl 0 (by decide) (hts (.fieldLink RX7 12 "PolarTypes" "tree" "LPolarTypes$Tree;") (List.mem_of_getElem? (i := 1) (by decide +kernel))) (fun _ h9 => h9) rfl dX7_type_1 ?_
  refine lv_iload_n hx hb dX7_type_4 rfl (lv_at hl 1 rfl) ?_
  have hPc := hP.sub (ws' := [(tr, .inr (3, [.ref (td 0), .ref (td 1), .ref (td 2), .ref (td 3), .ref (td 4), .ref (td 5)])), (td 0, .inr (0, [.ref (te 0), .int (nI 0)]))]) [1, 2] rfl
  have hDc := hD.sub (ws' := [(tr, .inr (3, [.ref (td 0), .ref (td 1), .ref (td 2), .ref (td 3), .ref (td 4), .ref (td 5)])), (td 0, .inr (0, [.ref (te 0), .int (nI 0)]))]) [1, 2] (by decide) rfl
  have hFc := va_free (wc := [(tr, .inr (3, [.ref (td 0), .ref (td 1), .ref (td 2), .ref (td 3), .ref (td 4), .ref (td 5)])), (td 0, .inr (0, [.ref (te 0), .int (nI 0)]))]) hD hS hA [1, 2] rfl
  refine va_calli (va_runV (As := [.int n]) (rest := []) ⟨hx, hb, hml, hown, hts⟩ (c_isNode0 l dC dI cI tr td (te 0) n H.size) (cwV 1 hts gX7_type_X3_isNode rfl rfl rfl (by decide +kernel) ⟨Nat.le_of_ble_eq_true rfl, Nat.le_of_ble_eq_true rfl⟩) ⟨fun a U g mk q => by obtain ⟨q0, q1, qP, qK, qD⟩ := q; exact ⟨q0, q1, qP, va_K.moved (u := U) (U := U.calling g mk a) (Vm.Alike.refl U.vm) qK, qD⟩, va_recv hK hPc (ci := 3) (q0 := 0) rfl rfl, fun U hU hW => ⟨rfl, by rw [hU], by rw [hU]; exact hPc, va_K.moved hW.alike hK, hDc.weaken (fun _ _ _ _ => trivial)⟩⟩ rfl rfl hl.1 rfl (lv_room (Nat.le_of_ble_eq_true rfl)) dX7_type_5 ⟨Nat.le_of_ble_eq_true rfl, Nat.le_of_ble_eq_true rfl⟩) hS (fun q _ h => hFc q h) hFc (fun r_1 u t H1 locs ht hvm hw hB hz1 hk1 hS => ?_)
  obtain ⟨hP1, hK1, hD1⟩ := hB
  rw [ht] at hP1
  obtain ⟨hP, hD⟩ := va_join (wr := [(h0, .inr (7, [.ref tr, .ref ty, .ref wk, .ref bs]))]) (w1 := [(tr, .inr (3, [.ref (td 0), .ref (td 1), .ref (td 2), .ref (td 3), .ref (td 4), .ref (td 5)])), (td 0, .inr (0, [.ref (te 0), .int (nI 0)]))]) hP hD [1, 2] [0] rfl rfl (by decide) (by decide) hk1 hFc hP1 hD1
  generalize H1 = H at hP hS ⊢
  obtain rfl : r_1 = 0 := hw
  have hP : va_P (dC, dI) vwCl [(h0, .inr (7, [.ref tr, .ref ty, .ref wk, .ref bs])), (tr, .inr (3, [.ref (td 0), .ref (td 1), .ref (td 2), .ref (td 3), .ref (td 4), .ref (td 5)])), (td 0, .inr (0, [.ref (te 0), .int (nI 0)]))] H := hP
  have hD : va_D A [(h0, .inr (7, [.ref tr, .ref ty, .ref wk, .ref bs])), (tr, .inr (3, [.ref (td 0), .ref (td 1), .ref (td 2), .ref (td 3), .ref (td 4), .ref (td 5)])), (td 0, .inr (0, [.ref (te 0), .int (nI 0)]))] := hD
  refine W.widen (k := 0) (n := 0) (Nat.le_of_ble_eq_true rfl) (Nat.le_of_ble_eq_true rfl) ?_
  refine lv_if_eq (tgt := 22) hx hb dX7_type_8 (by decide) (fun c_2 => ?_) (fun c_2 => absurd (by decide) c_2)
  refine lv_iconst (v := (-1)) hx hb dX7_type_22 (by decide) ?_
  have hP9 := hP.sub (ws' := []) [] rfl
  have hD9 := hD.sub (ws' := []) [] (by decide) rfl
  refine W.widen (k := 0) (n := 0) (Nat.le_of_ble_eq_true rfl) (Nat.le_of_ble_eq_true rfl) ?_
  exact W.iret (v := (-1)) hx hb hr (fun t ht hW => ⟨⟨(-1), (), rfl, rfl, by rw [ht]; exact hP9, va_K.moved hW.alike hK, hD9⟩, hS.F ht⟩) hS.2.2 dX7_type_23

set_option maxHeartbeats 4000000 in
set_option maxRecDepth 100000 in
/-- work, of a fresh object -/
theorem c_x_work (l : Launch) (dC : Nat → ClassId) (dI : Nat → Nat → Nat) (cI : ClassId) (h0 : Nat) (tr : Nat) (ty : Nat) (wk : Nat) (bs : Nat) (td : Nat → Nat) (te : Nat → Nat) (n : Int32) (k : Int32) (sz : Nat) : Met l yX7_work wsX7_work ({ frames := 2, cells := 0, slots := 0, locals := 42 }) (va_Pc [.ref h0, .int n, .int k] (fun U => U.heap.size = sz ∧ va_P (dC, dI) vwCl [(h0, .inr (7, [.ref tr, .ref ty, .ref wk, .ref bs])), (tr, .inr (3, [.ref (td 0), .ref (td 1), .ref (td 2), .ref (td 3), .ref (td 4), .ref (td 5)])), (td 0, .inr (0, [.ref (te 0), .int (nI 0)]))] U.heap ∧ va_K (dC, dI) vwCl [(cI, .int)] U ∧ va_D (fun _ => True) [(h0, .inr (7, [.ref tr, .ref ty, .ref wk, .ref bs])), (tr, .inr (3, [.ref (td 0), .ref (td 1), .ref (td 2), .ref (td 3), .ref (td 4), .ref (td 5)])), (td 0, .inr (0, [.ref (te 0), .int (nI 0)]))])) (va_Qi (fun (r : Int32) (_ : Unit) => r = (-1)) (fun (_ : Unit) (t : State) => va_P (dC, dI) vwCl [] t.heap ∧ va_K (dC, dI) vwCl [(cI, .int)] t ∧ va_D (va_A [(h0, .inr (7, [.ref tr, .ref ty, .ref wk, .ref bs])), (tr, .inr (3, [.ref (td 0), .ref (td 1), .ref (td 2), .ref (td 3), .ref (td 4), .ref (td 5)])), (td 0, .inr (0, [.ref (te 0), .int (nI 0)]))] sz) []) (va_A [(h0, .inr (7, [.ref tr, .ref ty, .ref wk, .ref bs])), (tr, .inr (3, [.ref (td 0), .ref (td 1), .ref (td 2), .ref (td 3), .ref (td 4), .ref (td 5)])), (td 0, .inr (0, [.ref (te 0), .int (nI 0)]))] sz)) 0 0 (va_A [(h0, .inr (7, [.ref tr, .ref ty, .ref wk, .ref bs])), (tr, .inr (3, [.ref (td 0), .ref (td 1), .ref (td 2), .ref (td 3), .ref (td 4), .ref (td 5)])), (td 0, .inr (0, [.ref (te 0), .int (nI 0)]))] sz) := by
  refine Met.ofW (cc := cX7_work) (maxL := 3) (ret := (some .int)) (by decide) rfl ?_
  intro p e s m args below meth c s₁ B hml hv
  obtain ⟨rfl, hsz, hP, hK, hD0⟩ := hv
  have hx := B.exec
  have hb := B.bytes
  have hr := B.returns
  have hts := atoms_spec (ws := wsX7_work) B.pre
  have hown : s.vm.findClass RX7 = some m.cls := findClass_of_methodNamed B.named
  have hlocks := B.notSynchronized
  subst hsz
  have hD := hD0.self (sz := s.heap.size)
  generalize hAe : va_A [(h0, .inr (7, [.ref tr, .ref ty, .ref wk, .ref bs])), (tr, .inr (3, [.ref (td 0), .ref (td 1), .ref (td 2), .ref (td 3), .ref (td 4), .ref (td 5)])), (td 0, .inr (0, [.ref (te 0), .int (nI 0)]))] s.heap.size = A at hD ⊢
  have hA : ∀ q : Nat, s.heap.size ≤ q → A q := fun q h => by rw [← hAe]; exact Or.inr h
  have hS : va_S A s.heap s.heap [] := va_S.rf
  have hP : va_P (dC, dI) vwCl [(h0, .inr (7, [.ref tr, .ref ty, .ref wk, .ref bs])), (tr, .inr (3, [.ref (td 0), .ref (td 1), .ref (td 2), .ref (td 3), .ref (td 4), .ref (td 5)])), (td 0, .inr (0, [.ref (te 0), .int (nI 0)]))] s.heap := hP
  have hl := lv_entry ([.ref h0, .int n, .int k]) (n := 3) (Nat.le_of_ble_eq_true rfl)
  rw [lg_entry_eq]
  generalize (lg_sl ([.ref h0, .int n, .int k]) ++ List.replicate (3 - (lg_sl ([.ref h0, .int n, .int k])).length) Slot.unset).toArray = ls at hl ⊢
  have hl : lv_has ls 3 [(0, .ref h0), (1, .int n), (2, .int k)] := hl
  obtain ⟨H, hHe⟩ : ∃ H : Heap, H = s.heap := ⟨_, rfl⟩
  rw [← hHe] at hP ⊢
  have hS : va_S A s.heap H [] := by rw [hHe]; exact va_S.rf
  refine lv_aload_n hx hb dX7_work_0 rfl (lv_at hl 0 rfl) ?_
  refine va_get (D := (dC, dI)) (ci := 7) (v := .ref tr) (C := RX7) (T := TX7) (N := 4) hx hb hts (fun w h => List.mem_cons_of_mem _ (List.mem_append_left _ (List.mem_append_left _ (List.mem_append_left _ (List.mem_append_left _ (List.mem_append_right _ h)))))) hown hK hP 0 rfl rfl 0 (by decide) (hts (.fieldLink RX7 12 "PolarTypes" "tree" "LPolarTypes$Tree;") (List.mem_of_getElem? (i := 1) (by decide +kernel))) (fun _ h9 => h9) rfl dX7_work_1 ?_
  refine lv_iload_n hx hb dX7_work_4 rfl (lv_at hl 1 rfl) ?_
  have hPc := hP.sub (ws' := [(tr, .inr (3, [.ref (td 0), .ref (td 1), .ref (td 2), .ref (td 3), .ref (td 4), .ref (td 5)])), (td 0, .inr (0, [.ref (te 0), .int (nI 0)]))]) [1, 2] rfl
  have hDc := hD.sub (ws' := [(tr, .inr (3, [.ref (td 0), .ref (td 1), .ref (td 2), .ref (td 3), .ref (td 4), .ref (td 5)])), (td 0, .inr (0, [.ref (te 0), .int (nI 0)]))]) [1, 2] (by decide) rfl
  have hFc := va_free (wc := [(tr, .inr (3, [.ref (td 0), .ref (td 1), .ref (td 2), .ref (td 3), .ref (td 4), .ref (td 5)])), (td 0, .inr (0, [.ref (te 0), .int (nI 0)]))]) hD hS hA [1, 2] rfl
  refine va_calli (va_runV (As := [.int n]) (rest := []) ⟨hx, hb, hml, hown, hts⟩ (c_isNode0 l dC dI cI tr td (te 0) n H.size) (cwV 1 hts gX7_work_X3_isNode rfl rfl rfl (by decide +kernel) ⟨Nat.le_of_ble_eq_true rfl, Nat.le_of_ble_eq_true rfl⟩) ⟨fun a U g mk q => by obtain ⟨q0, q1, qP, qK, qD⟩ := q; exact ⟨q0, q1, qP, va_K.moved (u := U) (U := U.calling g mk a) (Vm.Alike.refl U.vm) qK, qD⟩, va_recv hK hPc (ci := 3) (q0 := 0) rfl rfl, fun U hU hW => ⟨rfl, by rw [hU], by rw [hU]; exact hPc, va_K.moved hW.alike hK, hDc.weaken (fun _ _ _ _ => trivial)⟩⟩ rfl rfl hl.1 rfl (lv_room (Nat.le_of_ble_eq_true rfl)) dX7_work_5 ⟨Nat.le_of_ble_eq_true rfl, Nat.le_of_ble_eq_true rfl⟩) hS (fun q _ h => hFc q h) hFc (fun r_1 u t H1 locs ht hvm hw hB hz1 hk1 hS => ?_)
  obtain ⟨hP1, hK1, hD1⟩ := hB
  rw [ht] at hP1
  obtain ⟨hP, hD⟩ := va_join (wr := [(h0, .inr (7, [.ref tr, .ref ty, .ref wk, .ref bs]))]) (w1 := [(tr, .inr (3, [.ref (td 0), .ref (td 1), .ref (td 2), .ref (td 3), .ref (td 4), .ref (td 5)])), (td 0, .inr (0, [.ref (te 0), .int (nI 0)]))]) hP hD [1, 2] [0] rfl rfl (by decide) (by decide) hk1 hFc hP1 hD1
  generalize H1 = H at hP hS ⊢
  obtain rfl : r_1 = 0 := hw
  have hP : va_P (dC, dI) vwCl [(h0, .inr (7, [.ref tr, .ref ty, .ref wk, .ref bs])), (tr, .inr (3, [.ref (td 0), .ref (td 1), .ref (td 2), .ref (td 3), .ref (td 4), .ref (td 5)])), (td 0, .inr (0, [.ref (te 0), .int (nI 0)]))] H := hP
  have hD : va_D A [(h0, .inr (7, [.ref tr, .ref ty, .ref wk, .ref bs])), (tr, .inr (3, [.ref (td 0), .ref (td 1), .ref (td 2), .ref (td 3), .ref (td 4), .ref (td 5)])), (td 0, .inr (0, [.ref (te 0), .int (nI 0)]))] := hD
  refine W.widen (k := 0) (n := 0) (Nat.le_of_ble_eq_true rfl) (Nat.le_of_ble_eq_true rfl) ?_
  refine lv_if_eq (tgt := 22) hx hb dX7_work_8 (by decide) (fun c_2 => ?_) (fun c_2 => absurd (by decide) c_2)
  refine lv_iconst (v := (-1)) hx hb dX7_work_22 (by decide) ?_
  have hP9 := hP.sub (ws' := []) [] rfl
  have hD9 := hD.sub (ws' := []) [] (by decide) rfl
  refine W.widen (k := 0) (n := 0) (Nat.le_of_ble_eq_true rfl) (Nat.le_of_ble_eq_true rfl) ?_
  exact W.iret (v := (-1)) hx hb hr (fun t ht hW => ⟨⟨(-1), (), rfl, rfl, by rw [ht]; exact hP9, va_K.moved hW.alike hK, hD9⟩, hS.F ht⟩) hS.2.2 dX7_work_23

set_option maxHeartbeats 4000000 in
set_option maxRecDepth 100000 in
/-- where, of a fresh object -/
theorem c_x_where (l : Launch) (dC : Nat → ClassId) (dI : Nat → Nat → Nat) (cI : ClassId) (h0 : Nat) (tr : Nat) (ty : Nat) (wk : Nat) (bs : Nat) (tp : Nat) (yd : Nat → Nat) (sz : Nat) : Met l yX7_where wsX7_where ({ frames := 0, cells := 0, slots := 0, locals := 0 }) (va_Pc [.ref h0] (fun U => U.heap.size = sz ∧ va_P (dC, dI) vwCl [(h0, .inr (7, [.ref tr, .ref ty, .ref wk, .ref bs])), (ty, .inr (5, [.ref tr, .ref tp, .ref (yd 2), .ref (yd 3), .ref (yd 4), .ref (yd 5), .ref (yd 6), .ref (yd 7), .int 0, .int 0, .int 0, .int ((-9)), .int 0, .int ((-9)), .int ((-4))]))] U.heap ∧ va_K (dC, dI) vwCl [(cI, .int)] U ∧ va_D (fun _ => True) [(h0, .inr (7, [.ref tr, .ref ty, .ref wk, .ref bs])), (ty, .inr (5, [.ref tr, .ref tp, .ref (yd 2), .ref (yd 3), .ref (yd 4), .ref (yd 5), .ref (yd 6), .ref (yd 7), .int 0, .int 0, .int 0, .int ((-9)), .int 0, .int ((-9)), .int ((-4))]))])) (va_Qi (fun (r : Int32) (_ : Unit) => r = (-9)) (fun (_ : Unit) (t : State) => va_P (dC, dI) vwCl [] t.heap ∧ va_K (dC, dI) vwCl [(cI, .int)] t ∧ va_D (va_A [(h0, .inr (7, [.ref tr, .ref ty, .ref wk, .ref bs])), (ty, .inr (5, [.ref tr, .ref tp, .ref (yd 2), .ref (yd 3), .ref (yd 4), .ref (yd 5), .ref (yd 6), .ref (yd 7), .int 0, .int 0, .int 0, .int ((-9)), .int 0, .int ((-9)), .int ((-4))]))] sz) []) (va_A [(h0, .inr (7, [.ref tr, .ref ty, .ref wk, .ref bs])), (ty, .inr (5, [.ref tr, .ref tp, .ref (yd 2), .ref (yd 3), .ref (yd 4), .ref (yd 5), .ref (yd 6), .ref (yd 7), .int 0, .int 0, .int 0, .int ((-9)), .int 0, .int ((-9)), .int ((-4))]))] sz)) 0 0 (va_A [(h0, .inr (7, [.ref tr, .ref ty, .ref wk, .ref bs])), (ty, .inr (5, [.ref tr, .ref tp, .ref (yd 2), .ref (yd 3), .ref (yd 4), .ref (yd 5), .ref (yd 6), .ref (yd 7), .int 0, .int 0, .int 0, .int ((-9)), .int 0, .int ((-9)), .int ((-4))]))] sz) := by
  refine Met.ofW (cc := cX7_where) (maxL := 1) (ret := (some .int)) (by decide) rfl ?_
  intro p e s m args below meth c s₁ B hml hv
  obtain ⟨rfl, hsz, hP, hK, hD0⟩ := hv
  have hx := B.exec
  have hb := B.bytes
  have hr := B.returns
  have hts := atoms_spec (ws := wsX7_where) B.pre
  have hown : s.vm.findClass RX7 = some m.cls := findClass_of_methodNamed B.named
  have hlocks := B.notSynchronized
  subst hsz
  have hD := hD0.self (sz := s.heap.size)
  generalize hAe : va_A [(h0, .inr (7, [.ref tr, .ref ty, .ref wk, .ref bs])), (ty, .inr (5, [.ref tr, .ref tp, .ref (yd 2), .ref (yd 3), .ref (yd 4), .ref (yd 5), .ref (yd 6), .ref (yd 7), .int 0, .int 0, .int 0, .int ((-9)), .int 0, .int ((-9)), .int ((-4))]))] s.heap.size = A at hD ⊢
  have hA : ∀ q : Nat, s.heap.size ≤ q → A q := fun q h => by rw [← hAe]; exact Or.inr h
  have hS : va_S A s.heap s.heap [] := va_S.rf
  have hP : va_P (dC, dI) vwCl [(h0, .inr (7, [.ref tr, .ref ty, .ref wk, .ref bs])), (ty, .inr (5, [.ref tr, .ref tp, .ref (yd 2), .ref (yd 3), .ref (yd 4), .ref (yd 5), .ref (yd 6), .ref (yd 7), .int 0, .int 0, .int 0, .int ((-9)), .int 0, .int ((-9)), .int ((-4))]))] s.heap := hP
  have hl := lv_entry ([.ref h0]) (n := 1) (Nat.le_of_ble_eq_true rfl)
  rw [lg_entry_eq]
  generalize (lg_sl ([.ref h0]) ++ List.replicate (1 - (lg_sl ([.ref h0])).length) Slot.unset).toArray = ls at hl ⊢
  have hl : lv_has ls 1 [(0, .ref h0)] := hl
  obtain ⟨H, hHe⟩ : ∃ H : Heap, H = s.heap := ⟨_, rfl⟩
  rw [← hHe] at hP ⊢
  have hS : va_S A s.heap H [] := by rw [hHe]; exact va_S.rf
  refine lv_aload_n hx hb dX7_where_0 rfl (lv_at hl 0 rfl) ?_
  refine va_get (D := (dC, dI)) (ci := 7) (v := .ref ty) (C := RX7) (T := TX7) (N := 4) hx hb hts (fun w h => List.mem_cons_of_mem _ (List.mem_append_left _ (List.mem_append_right _ h))) hown hK hP 0 rfl rfl 1 (by decide) (hts (.fieldLink RX7 21 "PolarTypes" "typing" "LPolarTypes$Typing;") (List.mem_of_getElem? (i := 1) (by decide +kernel))) (fun _ h9 => h9) rfl dX7_where_1 ?_
  refine va_get (D := (dC, dI)) (ci := 5) (v := .int ((-9))) (C := RX5) (T := TX5) (N := 15) hx hb hts (fun w h => List.mem_cons_of_mem _ (List.mem_append_right _ h)) hown hK hP 1 rfl rfl 13 (by decide) (hts (.fieldLink RX7 111 "PolarTypes$Typing" "place" "I") (List.mem_of_getElem? (i := 2) (by decide +kernel))) (fun _ h9 => h9) rfl dX7_where_4 ?_
  have hP9 := hP.sub (ws' := []) [] rfl
  have hD9 := hD.sub (ws' := []) [] (by decide) rfl
  refine W.widen (k := 0) (n := 0) (Nat.le_of_ble_eq_true rfl) (Nat.le_of_ble_eq_true rfl) ?_
  exact W.iret (v := (-9)) hx hb hr (fun t ht hW => ⟨⟨(-9), (), rfl, rfl, by rw [ht]; exact hP9, va_K.moved hW.alike hK, hD9⟩, hS.F ht⟩) hS.2.2 dX7_where_7

set_option maxHeartbeats 4000000 in
set_option maxRecDepth 100000 in
/-- steps, of a fresh object -/
theorem c_x_steps (l : Launch) (dC : Nat → ClassId) (dI : Nat → Nat → Nat) (cI : ClassId) (h0 : Nat) (tr : Nat) (ty : Nat) (wk : Nat) (bs : Nat) (tp : Nat) (yd : Nat → Nat) (sz : Nat) : Met l yX7_steps wsX7_steps ({ frames := 0, cells := 0, slots := 0, locals := 0 }) (va_Pc [.ref h0] (fun U => U.heap.size = sz ∧ va_P (dC, dI) vwCl [(h0, .inr (7, [.ref tr, .ref ty, .ref wk, .ref bs])), (ty, .inr (5, [.ref tr, .ref tp, .ref (yd 2), .ref (yd 3), .ref (yd 4), .ref (yd 5), .ref (yd 6), .ref (yd 7), .int 0, .int 0, .int 0, .int ((-9)), .int 0, .int ((-9)), .int ((-4))]))] U.heap ∧ va_K (dC, dI) vwCl [(cI, .int)] U ∧ va_D (fun _ => True) [(h0, .inr (7, [.ref tr, .ref ty, .ref wk, .ref bs])), (ty, .inr (5, [.ref tr, .ref tp, .ref (yd 2), .ref (yd 3), .ref (yd 4), .ref (yd 5), .ref (yd 6), .ref (yd 7), .int 0, .int 0, .int 0, .int ((-9)), .int 0, .int ((-9)), .int ((-4))]))])) (va_Qi (fun (r : Int32) (_ : Unit) => r = 0) (fun (_ : Unit) (t : State) => va_P (dC, dI) vwCl [] t.heap ∧ va_K (dC, dI) vwCl [(cI, .int)] t ∧ va_D (va_A [(h0, .inr (7, [.ref tr, .ref ty, .ref wk, .ref bs])), (ty, .inr (5, [.ref tr, .ref tp, .ref (yd 2), .ref (yd 3), .ref (yd 4), .ref (yd 5), .ref (yd 6), .ref (yd 7), .int 0, .int 0, .int 0, .int ((-9)), .int 0, .int ((-9)), .int ((-4))]))] sz) []) (va_A [(h0, .inr (7, [.ref tr, .ref ty, .ref wk, .ref bs])), (ty, .inr (5, [.ref tr, .ref tp, .ref (yd 2), .ref (yd 3), .ref (yd 4), .ref (yd 5), .ref (yd 6), .ref (yd 7), .int 0, .int 0, .int 0, .int ((-9)), .int 0, .int ((-9)), .int ((-4))]))] sz)) 0 0 (va_A [(h0, .inr (7, [.ref tr, .ref ty, .ref wk, .ref bs])), (ty, .inr (5, [.ref tr, .ref tp, .ref (yd 2), .ref (yd 3), .ref (yd 4), .ref (yd 5), .ref (yd 6), .ref (yd 7), .int 0, .int 0, .int 0, .int ((-9)), .int 0, .int ((-9)), .int ((-4))]))] sz) := by
  refine Met.ofW (cc := cX7_steps) (maxL := 1) (ret := (some .int)) (by decide) rfl ?_
  intro p e s m args below meth c s₁ B hml hv
  obtain ⟨rfl, hsz, hP, hK, hD0⟩ := hv
  have hx := B.exec
  have hb := B.bytes
  have hr := B.returns
  have hts := atoms_spec (ws := wsX7_steps) B.pre
  have hown : s.vm.findClass RX7 = some m.cls := findClass_of_methodNamed B.named
  have hlocks := B.notSynchronized
  subst hsz
  have hD := hD0.self (sz := s.heap.size)
  generalize hAe : va_A [(h0, .inr (7, [.ref tr, .ref ty, .ref wk, .ref bs])), (ty, .inr (5, [.ref tr, .ref tp, .ref (yd 2), .ref (yd 3), .ref (yd 4), .ref (yd 5), .ref (yd 6), .ref (yd 7), .int 0, .int 0, .int 0, .int ((-9)), .int 0, .int ((-9)), .int ((-4))]))] s.heap.size = A at hD ⊢
  have hA : ∀ q : Nat, s.heap.size ≤ q → A q := fun q h => by rw [← hAe]; exact Or.inr h
  have hS : va_S A s.heap s.heap [] := va_S.rf
  have hP : va_P (dC, dI) vwCl [(h0, .inr (7, [.ref tr, .ref ty, .ref wk, .ref bs])), (ty, .inr (5, [.ref tr, .ref tp, .ref (yd 2), .ref (yd 3), .ref (yd 4), .ref (yd 5), .ref (yd 6), .ref (yd 7), .int 0, .int 0, .int 0, .int ((-9)), .int 0, .int ((-9)), .int ((-4))]))] s.heap := hP
  have hl := lv_entry ([.ref h0]) (n := 1) (Nat.le_of_ble_eq_true rfl)
  rw [lg_entry_eq]
  generalize (lg_sl ([.ref h0]) ++ List.replicate (1 - (lg_sl ([.ref h0])).length) Slot.unset).toArray = ls at hl ⊢
  have hl : lv_has ls 1 [(0, .ref h0)] := hl
  obtain ⟨H, hHe⟩ : ∃ H : Heap, H = s.heap := ⟨_, rfl⟩
  rw [← hHe] at hP ⊢
  have hS : va_S A s.heap H [] := by rw [hHe]; exact va_S.rf
  refine lv_aload_n hx hb dX7_steps_0 rfl (lv_at hl 0 rfl) ?_
  refine va_get (D := (dC, dI)) (ci := 7) (v := .ref ty) (C := RX7) (T := TX7) (N := 4) hx hb hts (fun w h => List.mem_cons_of_mem _ (List.mem_append_left _ (List.mem_append_right _ h))) hown hK hP 0 rfl rfl 1 (by decide) (hts (.fieldLink RX7 21 "PolarTypes" "typing" "LPolarTypes$Typing;") (List.mem_of_getElem? (i := 1) (by decide +kernel))) (fun _ h9 => h9) rfl dX7_steps_1 ?_
  refine va_get (D := (dC, dI)) (ci := 5) (v := .int 0) (C := RX5) (T := TX5) (N := 15) hx hb hts (fun w h => List.mem_cons_of_mem _ (List.mem_append_right _ h)) hown hK hP 1 rfl rfl 12 (by decide) (hts (.fieldLink RX7 115 "PolarTypes$Typing" "asked" "I") (List.mem_of_getElem? (i := 2) (by decide +kernel))) (fun _ h9 => h9) rfl dX7_steps_4 ?_
  have hP9 := hP.sub (ws' := []) [] rfl
  have hD9 := hD.sub (ws' := []) [] (by decide) rfl
  refine W.widen (k := 0) (n := 0) (Nat.le_of_ble_eq_true rfl) (Nat.le_of_ble_eq_true rfl) ?_
  exact W.iret (v := 0) hx hb hr (fun t ht hW => ⟨⟨0, (), rfl, rfl, by rw [ht]; exact hP9, va_K.moved hW.alike hK, hD9⟩, hS.F ht⟩) hS.2.2 dX7_steps_7

set_option maxHeartbeats 4000000 in
set_option maxRecDepth 100000 in
/-- sign, of a fresh object -/
theorem c_x_sign (l : Launch) (dC : Nat → ClassId) (dI : Nat → Nat → Nat) (cI : ClassId) (h0 : Nat) (tr : Nat) (ty : Nat) (wk : Nat) (bs : Nat) (tp : Nat) (yd : Nat → Nat) (i : Int32) (sz : Nat) : Met l yX7_sign wsX7_sign ({ frames := 0, cells := 0, slots := 0, locals := 0 }) (va_Pc [.ref h0, .int i] (fun U => U.heap.size = sz ∧ va_P (dC, dI) vwCl [(h0, .inr (7, [.ref tr, .ref ty, .ref wk, .ref bs])), (ty, .inr (5, [.ref tr, .ref tp, .ref (yd 2), .ref (yd 3), .ref (yd 4), .ref (yd 5), .ref (yd 6), .ref (yd 7), .int 0, .int 0, .int 0, .int ((-9)), .int 0, .int ((-9)), .int ((-4))]))] U.heap ∧ va_K (dC, dI) vwCl [(cI, .int)] U ∧ va_D (fun _ => True) [(h0, .inr (7, [.ref tr, .ref ty, .ref wk, .ref bs])), (ty, .inr (5, [.ref tr, .ref tp, .ref (yd 2), .ref (yd 3), .ref (yd 4), .ref (yd 5), .ref (yd 6), .ref (yd 7), .int 0, .int 0, .int 0, .int ((-9)), .int 0, .int ((-9)), .int ((-4))]))])) (va_Qi (fun (r : Int32) (_ : Unit) => r = (-4)) (fun (_ : Unit) (t : State) => va_P (dC, dI) vwCl [] t.heap ∧ va_K (dC, dI) vwCl [(cI, .int)] t ∧ va_D (va_A [(h0, .inr (7, [.ref tr, .ref ty, .ref wk, .ref bs])), (ty, .inr (5, [.ref tr, .ref tp, .ref (yd 2), .ref (yd 3), .ref (yd 4), .ref (yd 5), .ref (yd 6), .ref (yd 7), .int 0, .int 0, .int 0, .int ((-9)), .int 0, .int ((-9)), .int ((-4))]))] sz) []) (va_A [(h0, .inr (7, [.ref tr, .ref ty, .ref wk, .ref bs])), (ty, .inr (5, [.ref tr, .ref tp, .ref (yd 2), .ref (yd 3), .ref (yd 4), .ref (yd 5), .ref (yd 6), .ref (yd 7), .int 0, .int 0, .int 0, .int ((-9)), .int 0, .int ((-9)), .int ((-4))]))] sz)) 0 0 (va_A [(h0, .inr (7, [.ref tr, .ref ty, .ref wk, .ref bs])), (ty, .inr (5, [.ref tr, .ref tp, .ref (yd 2), .ref (yd 3), .ref (yd 4), .ref (yd 5), .ref (yd 6), .ref (yd 7), .int 0, .int 0, .int 0, .int ((-9)), .int 0, .int ((-9)), .int ((-4))]))] sz) := by
  refine Met.ofW (cc := cX7_sign) (maxL := 2) (ret := (some .int)) (by decide) rfl ?_
  intro p e s m args below meth c s₁ B hml hv
  obtain ⟨rfl, hsz, hP, hK, hD0⟩ := hv
  have hx := B.exec
  have hb := B.bytes
  have hr := B.returns
  have hts := atoms_spec (ws := wsX7_sign) B.pre
  have hown : s.vm.findClass RX7 = some m.cls := findClass_of_methodNamed B.named
  have hlocks := B.notSynchronized
  subst hsz
  have hD := hD0.self (sz := s.heap.size)
  generalize hAe : va_A [(h0, .inr (7, [.ref tr, .ref ty, .ref wk, .ref bs])), (ty, .inr (5, [.ref tr, .ref tp, .ref (yd 2), .ref (yd 3), .ref (yd 4), .ref (yd 5), .ref (yd 6), .ref (yd 7), .int 0, .int 0, .int 0, .int ((-9)), .int 0, .int ((-9)), .int ((-4))]))] s.heap.size = A at hD ⊢
  have hA : ∀ q : Nat, s.heap.size ≤ q → A q := fun q h => by rw [← hAe]; exact Or.inr h
  have hS : va_S A s.heap s.heap [] := va_S.rf
  have hP : va_P (dC, dI) vwCl [(h0, .inr (7, [.ref tr, .ref ty, .ref wk, .ref bs])), (ty, .inr (5, [.ref tr, .ref tp, .ref (yd 2), .ref (yd 3), .ref (yd 4), .ref (yd 5), .ref (yd 6), .ref (yd 7), .int 0, .int 0, .int 0, .int ((-9)), .int 0, .int ((-9)), .int ((-4))]))] s.heap := hP
  have hl := lv_entry ([.ref h0, .int i]) (n := 2) (Nat.le_of_ble_eq_true rfl)
  rw [lg_entry_eq]
  generalize (lg_sl ([.ref h0, .int i]) ++ List.replicate (2 - (lg_sl ([.ref h0, .int i])).length) Slot.unset).toArray = ls at hl ⊢
  have hl : lv_has ls 2 [(0, .ref h0), (1, .int i)] := hl
  obtain ⟨H, hHe⟩ : ∃ H : Heap, H = s.heap := ⟨_, rfl⟩
  rw [← hHe] at hP ⊢
  have hS : va_S A s.heap H [] := by rw [hHe]; exact va_S.rf
  refine lv_aload_n hx hb dX7_sign_0 rfl (lv_at hl 0 rfl) ?_
  refine va_get (D := (dC, dI)) (ci := 7) (v := .ref ty) (C := RX7) (T := TX7) (N := 4) hx hb hts (fun w h => List.mem_cons_of_mem _ (List.mem_append_left _ (List.mem_append_left _ (List.mem_append_right _ h)))) hown hK hP 0 rfl rfl 1 (by decide) (hts (.fieldLink RX7 21 "PolarTypes" "typing" "LPolarTypes$Typing;") (List.mem_of_getElem? (i := 1) (by decide +kernel))) (fun _ h9 => h9) rfl dX7_sign_1 ?_
  refine va_get (D := (dC, dI)) (ci := 5) (v := .int ((-4))) (C := RX5) (T := TX5) (N := 15) hx hb hts (fun w h => List.mem_cons_of_mem _ (List.mem_append_left _ (List.mem_append_right _ h))) hown hK hP 1 rfl rfl 14 (by decide) (hts (.fieldLink RX7 118 "PolarTypes$Typing" "outcome" "I") (List.mem_of_getElem? (i := 2) (by decide +kernel))) (fun _ h9 => h9) rfl dX7_sign_4 ?_
  refine lv_if_ne (tgt := 24) hx hb dX7_sign_7 (by decide) (fun c_1 => ?_) (fun c_1 => absurd c_1 (by decide))
  refine lv_bipush (v := (-4)) hx hb dX7_sign_24 (by decide) ?_
  have hP9 := hP.sub (ws' := []) [] rfl
  have hD9 := hD.sub (ws' := []) [] (by decide) rfl
  refine W.widen (k := 0) (n := 0) (Nat.le_of_ble_eq_true rfl) (Nat.le_of_ble_eq_true rfl) ?_
  exact W.iret (v := (-4)) hx hb hr (fun t ht hW => ⟨⟨(-4), (), rfl, rfl, by rw [ht]; exact hP9, va_K.moved hW.alike hK, hD9⟩, hS.F ht⟩) hS.2.2 dX7_sign_26

set_option maxHeartbeats 4000000 in
set_option maxRecDepth 100000 in
/-- variable, of a fresh object -/
theorem c_x_variable (l : Launch) (dC : Nat → ClassId) (dI : Nat → Nat → Nat) (cI : ClassId) (h0 : Nat) (tr : Nat) (ty : Nat) (wk : Nat) (bs : Nat) (tp : Nat) (yd : Nat → Nat) (pd : Nat → Nat) (ve : Nat) (v : Int32) (w : Int32) (sz : Nat) : Met l yX7_variable wsX7_variable ({ frames := 2, cells := 0, slots := 0, locals := 42 }) (va_Pc [.ref h0, .int v, .int w] (fun U => U.heap.size = sz ∧ va_P (dC, dI) vwCl [(h0, .inr (7, [.ref tr, .ref ty, .ref wk, .ref bs])), (ty, .inr (5, [.ref tr, .ref tp, .ref (yd 2), .ref (yd 3), .ref (yd 4), .ref (yd 5), .ref (yd 6), .ref (yd 7), .int 0, .int 0, .int 0, .int ((-9)), .int 0, .int ((-9)), .int ((-4))])), (tp, .inr (4, [.ref (pd 0), .ref (pd 1), .ref (pd 2), .ref (pd 3), .ref (pd 4), .ref (pd 5), .ref (pd 6), .ref (pd 7), .ref (pd 8), .ref (pd 9), .ref (pd 10), .ref (pd 11), .ref (pd 12), .ref (pd 13)])), (pd 8, .inr (0, [.ref ve, .int (nI 0)]))] U.heap ∧ va_K (dC, dI) vwCl [(cI, .int)] U ∧ va_D (fun _ => True) [(h0, .inr (7, [.ref tr, .ref ty, .ref wk, .ref bs])), (ty, .inr (5, [.ref tr, .ref tp, .ref (yd 2), .ref (yd 3), .ref (yd 4), .ref (yd 5), .ref (yd 6), .ref (yd 7), .int 0, .int 0, .int 0, .int ((-9)), .int 0, .int ((-9)), .int ((-4))])), (tp, .inr (4, [.ref (pd 0), .ref (pd 1), .ref (pd 2), .ref (pd 3), .ref (pd 4), .ref (pd 5), .ref (pd 6), .ref (pd 7), .ref (pd 8), .ref (pd 9), .ref (pd 10), .ref (pd 11), .ref (pd 12), .ref (pd 13)])), (pd 8, .inr (0, [.ref ve, .int (nI 0)]))])) (va_Qi (fun (r : Int32) (_ : Unit) => r = (-1)) (fun (_ : Unit) (t : State) => va_P (dC, dI) vwCl [] t.heap ∧ va_K (dC, dI) vwCl [(cI, .int)] t ∧ va_D (va_A [(h0, .inr (7, [.ref tr, .ref ty, .ref wk, .ref bs])), (ty, .inr (5, [.ref tr, .ref tp, .ref (yd 2), .ref (yd 3), .ref (yd 4), .ref (yd 5), .ref (yd 6), .ref (yd 7), .int 0, .int 0, .int 0, .int ((-9)), .int 0, .int ((-9)), .int ((-4))])), (tp, .inr (4, [.ref (pd 0), .ref (pd 1), .ref (pd 2), .ref (pd 3), .ref (pd 4), .ref (pd 5), .ref (pd 6), .ref (pd 7), .ref (pd 8), .ref (pd 9), .ref (pd 10), .ref (pd 11), .ref (pd 12), .ref (pd 13)])), (pd 8, .inr (0, [.ref ve, .int (nI 0)]))] sz) []) (va_A [(h0, .inr (7, [.ref tr, .ref ty, .ref wk, .ref bs])), (ty, .inr (5, [.ref tr, .ref tp, .ref (yd 2), .ref (yd 3), .ref (yd 4), .ref (yd 5), .ref (yd 6), .ref (yd 7), .int 0, .int 0, .int 0, .int ((-9)), .int 0, .int ((-9)), .int ((-4))])), (tp, .inr (4, [.ref (pd 0), .ref (pd 1), .ref (pd 2), .ref (pd 3), .ref (pd 4), .ref (pd 5), .ref (pd 6), .ref (pd 7), .ref (pd 8), .ref (pd 9), .ref (pd 10), .ref (pd 11), .ref (pd 12), .ref (pd 13)])), (pd 8, .inr (0, [.ref ve, .int (nI 0)]))] sz)) 0 0 (va_A [(h0, .inr (7, [.ref tr, .ref ty, .ref wk, .ref bs])), (ty, .inr (5, [.ref tr, .ref tp, .ref (yd 2), .ref (yd 3), .ref (yd 4), .ref (yd 5), .ref (yd 6), .ref (yd 7), .int 0, .int 0, .int 0, .int ((-9)), .int 0, .int ((-9)), .int ((-4))])), (tp, .inr (4, [.ref (pd 0), .ref (pd 1), .ref (pd 2), .ref (pd 3), .ref (pd 4), .ref (pd 5), .ref (pd 6), .ref (pd 7), .ref (pd 8), .ref (pd 9), .ref (pd 10), .ref (pd 11), .ref (pd 12), .ref (pd 13)])), (pd 8, .inr (0, [.ref ve, .int (nI 0)]))] sz) := by
  refine Met.ofW (cc := cX7_variable) (maxL := 4) (ret := (some .int)) (by decide) rfl ?_
  intro p e s m args below meth c s₁ B hml hv
  obtain ⟨rfl, hsz, hP, hK, hD0⟩ := hv
  have hx := B.exec
  have hb := B.bytes
  have hr := B.returns
  have hts := atoms_spec (ws := wsX7_variable) B.pre
  have hown : s.vm.findClass RX7 = some m.cls := findClass_of_methodNamed B.named
  have hlocks := B.notSynchronized
  subst hsz
  have hD := hD0.self (sz := s.heap.size)
  generalize hAe : va_A [(h0, .inr (7, [.ref tr, .ref ty, .ref wk, .ref bs])), (ty, .inr (5, [.ref tr, .ref tp, .ref (yd 2), .ref (yd 3), .ref (yd 4), .ref (yd 5), .ref (yd 6), .ref (yd 7), .int 0, .int 0, .int 0, .int ((-9)), .int 0, .int ((-9)), .int ((-4))])), (tp, .inr (4, [.ref (pd 0), .ref (pd 1), .ref (pd 2), .ref (pd 3), .ref (pd 4), .ref (pd 5), .ref (pd 6), .ref (pd 7), .ref (pd 8), .ref (pd 9), .ref (pd 10), .ref (pd 11), .ref (pd 12), .ref (pd 13)])), (pd 8, .inr (0, [.ref ve, .int (nI 0)]))] s.heap.size = A at hD ⊢
  have hA : ∀ q : Nat, s.heap.size ≤ q → A q := fun q h => by rw [← hAe]; exact Or.inr h
  have hS : va_S A s.heap s.heap [] := va_S.rf
  have hP : va_P (dC, dI) vwCl [(h0, .inr (7, [.ref tr, .ref ty, .ref wk, .ref bs])), (ty, .inr (5, [.ref tr, .ref tp, .ref (yd 2), .ref (yd 3), .ref (yd 4), .ref (yd 5), .ref (yd 6), .ref (yd 7), .int 0, .int 0, .int 0, .int ((-9)), .int 0, .int ((-9)), .int ((-4))])), (tp, .inr (4, [.ref (pd 0), .ref (pd 1), .ref (pd 2), .ref (pd 3), .ref (pd 4), .ref (pd 5), .ref (pd 6), .ref (pd 7), .ref (pd 8), .ref (pd 9), .ref (pd 10), .ref (pd 11), .ref (pd 12), .ref (pd 13)])), (pd 8, .inr (0, [.ref ve, .int (nI 0)]))] s.heap := hP
  have hl := lv_entry ([.ref h0, .int v, .int w]) (n := 4) (Nat.le_of_ble_eq_true rfl)
  rw [lg_entry_eq]
  generalize (lg_sl ([.ref h0, .int v, .int w]) ++ List.replicate (4 - (lg_sl ([.ref h0, .int v, .int w])).length) Slot.unset).toArray = ls at hl ⊢
  have hl : lv_has ls 4 [(0, .ref h0), (1, .int v), (2, .int w)] := hl
  obtain ⟨H, hHe⟩ : ∃ H : Heap, H = s.heap := ⟨_, rfl⟩
  rw [← hHe] at hP ⊢
  have hS : va_S A s.heap H [] := by rw [hHe]; exact va_S.rf
  refine lv_aload_n hx hb dX7_variable_0 rfl (lv_at hl 0 rfl) ?_
  refine va_get (D := (dC, dI)) (ci := 7) (v := .ref ty) (C := RX7) (T := TX7) (N := 4) hx hb hts (fun w h => List.mem_cons_of_mem _ (List.mem_append_left _ (List.mem_append_left _ (List.mem_append_left _ (List.mem_append_right _ h))))) hown hK hP 0 rfl rfl 1 (by decide) (hts (.fieldLink RX7 21 "PolarTypes" "typing" "LPolarTypes$Typing;") (List.mem_of_getElem? (i := 1) (by decide +kernel))) (fun _ h9 => h9) rfl dX7_variable_1 ?_
  refine va_get (D := (dC, dI)) (ci := 5) (v := .ref tp) (C := RX5) (T := TX5) (N := 15) hx hb hts (fun w h => List.mem_cons_of_mem _ (List.mem_append_left _ (List.mem_append_left _ (List.mem_append_right _ h)))) hown hK hP 1 rfl rfl 1 (by decide) (hts (.fieldLink RX7 127 "PolarTypes$Typing" "types" "LPolarTypes$Types;") (List.mem_of_getElem? (i := 2) (by decide +kernel))) (fun _ h9 => h9) rfl dX7_variable_4 ?_
  refine lv_iload_n hx hb dX7_variable_7 rfl (lv_at hl 1 rfl) ?_
  have hPc := hP.sub (ws' := [(tp, .inr (4, [.ref (pd 0), .ref (pd 1), .ref (pd 2), .ref (pd 3), .ref (pd 4), .ref (pd 5), .ref (pd 6), .ref (pd 7), .ref (pd 8), .ref (pd 9), .ref (pd 10), .ref (pd 11), .ref (pd 12), .ref (pd 13)])), (pd 8, .inr (0, [.ref ve, .int (nI 0)]))]) [2, 3] rfl
  have hDc := hD.sub (ws' := [(tp, .inr (4, [.ref (pd 0), .ref (pd 1), .ref (pd 2), .ref (pd 3), .ref (pd 4), .ref (pd 5), .ref (pd 6), .ref (pd 7), .ref (pd 8), .ref (pd 9), .ref (pd 10), .ref (pd 11), .ref (pd 12), .ref (pd 13)])), (pd 8, .inr (0, [.ref ve, .int (nI 0)]))]) [2, 3] (by decide) rfl
  have hFc := va_free (wc := [(tp, .inr (4, [.ref (pd 0), .ref (pd 1), .ref (pd 2), .ref (pd 3), .ref (pd 4), .ref (pd 5), .ref (pd 6), .ref (pd 7), .ref (pd 8), .ref (pd 9), .ref (pd 10), .ref (pd 11), .ref (pd 12), .ref (pd 13)])), (pd 8, .inr (0, [.ref ve, .int (nI 0)]))]) hD hS hA [2, 3] rfl
  refine va_calli (va_runV (As := [.int v]) (rest := []) ⟨hx, hb, hml, hown, hts⟩ (c_ofVariable0 l dC dI cI tp pd ve v H.size) (cwV 1 hts gX7_variable_X4_ofVariable rfl rfl rfl (by decide +kernel) ⟨Nat.le_of_ble_eq_true rfl, Nat.le_of_ble_eq_true rfl⟩) ⟨fun a U g mk q => by obtain ⟨q0, q1, qP, qK, qD⟩ := q; exact ⟨q0, q1, qP, va_K.moved (u := U) (U := U.calling g mk a) (Vm.Alike.refl U.vm) qK, qD⟩, va_recv hK hPc (ci := 4) (q0 := 0) rfl rfl, fun U hU hW => ⟨rfl, by rw [hU], by rw [hU]; exact hPc, va_K.moved hW.alike hK, hDc.weaken (fun _ _ _ _ => trivial)⟩⟩ rfl rfl hl.1 rfl (lv_room (Nat.le_of_ble_eq_true rfl)) dX7_variable_8 ⟨Nat.le_of_ble_eq_true rfl, Nat.le_of_ble_eq_true rfl⟩) hS (fun q _ h => hFc q h) hFc (fun r_1 u t H1 locs ht hvm hw hB hz1 hk1 hS => ?_)
  obtain ⟨hP1, hK1, hD1⟩ := hB
  rw [ht] at hP1
  obtain ⟨hP, hD⟩ := va_join (wr := [(h0, .inr (7, [.ref tr, .ref ty, .ref wk, .ref bs])), (ty, .inr (5, [.ref tr, .ref tp, .ref (yd 2), .ref (yd 3), .ref (yd 4), .ref (yd 5), .ref (yd 6), .ref (yd 7), .int 0, .int 0, .int 0, .int ((-9)), .int 0, .int ((-9)), .int ((-4))]))]) (w1 := [(tp, .inr (4, [.ref (pd 0), .ref (pd 1), .ref (pd 2), .ref (pd 3), .ref (pd 4), .ref (pd 5), .ref (pd 6), .ref (pd 7), .ref (pd 8), .ref (pd 9), .ref (pd 10), .ref (pd 11), .ref (pd 12), .ref (pd 13)])), (pd 8, .inr (0, [.ref ve, .int (nI 0)]))]) hP hD [2, 3] [0, 1] rfl rfl (by decide) (by decide) hk1 hFc hP1 hD1
  generalize H1 = H at hP hS ⊢
  obtain rfl : r_1 = (-9) := hw
  have hP : va_P (dC, dI) vwCl [(h0, .inr (7, [.ref tr, .ref ty, .ref wk, .ref bs])), (ty, .inr (5, [.ref tr, .ref tp, .ref (yd 2), .ref (yd 3), .ref (yd 4), .ref (yd 5), .ref (yd 6), .ref (yd 7), .int 0, .int 0, .int 0, .int ((-9)), .int 0, .int ((-9)), .int ((-4))])), (tp, .inr (4, [.ref (pd 0), .ref (pd 1), .ref (pd 2), .ref (pd 3), .ref (pd 4), .ref (pd 5), .ref (pd 6), .ref (pd 7), .ref (pd 8), .ref (pd 9), .ref (pd 10), .ref (pd 11), .ref (pd 12), .ref (pd 13)])), (pd 8, .inr (0, [.ref ve, .int (nI 0)]))] H := hP
  have hD : va_D A [(h0, .inr (7, [.ref tr, .ref ty, .ref wk, .ref bs])), (ty, .inr (5, [.ref tr, .ref tp, .ref (yd 2), .ref (yd 3), .ref (yd 4), .ref (yd 5), .ref (yd 6), .ref (yd 7), .int 0, .int 0, .int 0, .int ((-9)), .int 0, .int ((-9)), .int ((-4))])), (tp, .inr (4, [.ref (pd 0), .ref (pd 1), .ref (pd 2), .ref (pd 3), .ref (pd 4), .ref (pd 5), .ref (pd 6), .ref (pd 7), .ref (pd 8), .ref (pd 9), .ref (pd 10), .ref (pd 11), .ref (pd 12), .ref (pd 13)])), (pd 8, .inr (0, [.ref ve, .int (nI 0)]))] := hD
  refine W.widen (k := 0) (n := 0) (Nat.le_of_ble_eq_true rfl) (Nat.le_of_ble_eq_true rfl) ?_
  refine lv_istore_n (lv' := [(3, .int ((-9))), (0, .ref h0), (1, .int v), (2, .int w)]) hx hb dX7_variable_11 rfl hl (by decide) rfl (fun ls hl => ?_)
  refine lv_iload_n hx hb dX7_variable_12 rfl (lv_at hl 0 rfl) ?_
  refine lv_bipush (v := (-9)) hx hb dX7_variable_13 (by decide) ?_
  refine lv_icmp_ne (tgt := 20) hx hb dX7_variable_15 (by decide) (fun c_2 => absurd (by decide) c_2) (fun c_2 => ?_)
  refine lv_iconst (v := (-1)) hx hb dX7_variable_18 (by decide) ?_
  have hP9 := hP.sub (ws' := []) [] rfl
  have hD9 := hD.sub (ws' := []) [] (by decide) rfl
  refine W.widen (k := 0) (n := 0) (Nat.le_of_ble_eq_true rfl) (Nat.le_of_ble_eq_true rfl) ?_
  exact W.iret (v := (-1)) hx hb hr (fun t ht hW => ⟨⟨(-1), (), rfl, rfl, by rw [ht]; exact hP9, va_K.moved hW.alike hK, hD9⟩, hS.F ht⟩) hS.2.2 dX7_variable_19

set_option maxHeartbeats 4000000 in
set_option maxRecDepth 100000 in
/-- bound, of a fresh object -/
theorem c_x_bound (l : Launch) (dC : Nat → ClassId) (dI : Nat → Nat → Nat) (cI : ClassId) (h0 : Nat) (tr : Nat) (ty : Nat) (wk : Nat) (bs : Nat) (tp : Nat) (yd : Nat → Nat) (pd : Nat → Nat) (ve : Nat) (v : Int32) (a : Int32) (i : Int32) (j : Int32) (sz : Nat) : Met l yX7_bound wsX7_bound ({ frames := 2, cells := 0, slots := 0, locals := 42 }) (va_Pc [.ref h0, .int v, .int a, .int i, .int j] (fun U => U.heap.size = sz ∧ va_P (dC, dI) vwCl [(h0, .inr (7, [.ref tr, .ref ty, .ref wk, .ref bs])), (ty, .inr (5, [.ref tr, .ref tp, .ref (yd 2), .ref (yd 3), .ref (yd 4), .ref (yd 5), .ref (yd 6), .ref (yd 7), .int 0, .int 0, .int 0, .int ((-9)), .int 0, .int ((-9)), .int ((-4))])), (tp, .inr (4, [.ref (pd 0), .ref (pd 1), .ref (pd 2), .ref (pd 3), .ref (pd 4), .ref (pd 5), .ref (pd 6), .ref (pd 7), .ref (pd 8), .ref (pd 9), .ref (pd 10), .ref (pd 11), .ref (pd 12), .ref (pd 13)])), (pd 8, .inr (0, [.ref ve, .int (nI 0)]))] U.heap ∧ va_K (dC, dI) vwCl [(cI, .int)] U ∧ va_D (fun _ => True) [(h0, .inr (7, [.ref tr, .ref ty, .ref wk, .ref bs])), (ty, .inr (5, [.ref tr, .ref tp, .ref (yd 2), .ref (yd 3), .ref (yd 4), .ref (yd 5), .ref (yd 6), .ref (yd 7), .int 0, .int 0, .int 0, .int ((-9)), .int 0, .int ((-9)), .int ((-4))])), (tp, .inr (4, [.ref (pd 0), .ref (pd 1), .ref (pd 2), .ref (pd 3), .ref (pd 4), .ref (pd 5), .ref (pd 6), .ref (pd 7), .ref (pd 8), .ref (pd 9), .ref (pd 10), .ref (pd 11), .ref (pd 12), .ref (pd 13)])), (pd 8, .inr (0, [.ref ve, .int (nI 0)]))])) (va_Qi (fun (r : Int32) (_ : Unit) => r = (-1)) (fun (_ : Unit) (t : State) => va_P (dC, dI) vwCl [] t.heap ∧ va_K (dC, dI) vwCl [(cI, .int)] t ∧ va_D (va_A [(h0, .inr (7, [.ref tr, .ref ty, .ref wk, .ref bs])), (ty, .inr (5, [.ref tr, .ref tp, .ref (yd 2), .ref (yd 3), .ref (yd 4), .ref (yd 5), .ref (yd 6), .ref (yd 7), .int 0, .int 0, .int 0, .int ((-9)), .int 0, .int ((-9)), .int ((-4))])), (tp, .inr (4, [.ref (pd 0), .ref (pd 1), .ref (pd 2), .ref (pd 3), .ref (pd 4), .ref (pd 5), .ref (pd 6), .ref (pd 7), .ref (pd 8), .ref (pd 9), .ref (pd 10), .ref (pd 11), .ref (pd 12), .ref (pd 13)])), (pd 8, .inr (0, [.ref ve, .int (nI 0)]))] sz) []) (va_A [(h0, .inr (7, [.ref tr, .ref ty, .ref wk, .ref bs])), (ty, .inr (5, [.ref tr, .ref tp, .ref (yd 2), .ref (yd 3), .ref (yd 4), .ref (yd 5), .ref (yd 6), .ref (yd 7), .int 0, .int 0, .int 0, .int ((-9)), .int 0, .int ((-9)), .int ((-4))])), (tp, .inr (4, [.ref (pd 0), .ref (pd 1), .ref (pd 2), .ref (pd 3), .ref (pd 4), .ref (pd 5), .ref (pd 6), .ref (pd 7), .ref (pd 8), .ref (pd 9), .ref (pd 10), .ref (pd 11), .ref (pd 12), .ref (pd 13)])), (pd 8, .inr (0, [.ref ve, .int (nI 0)]))] sz)) 0 0 (va_A [(h0, .inr (7, [.ref tr, .ref ty, .ref wk, .ref bs])), (ty, .inr (5, [.ref tr, .ref tp, .ref (yd 2), .ref (yd 3), .ref (yd 4), .ref (yd 5), .ref (yd 6), .ref (yd 7), .int 0, .int 0, .int 0, .int ((-9)), .int 0, .int ((-9)), .int ((-4))])), (tp, .inr (4, [.ref (pd 0), .ref (pd 1), .ref (pd 2), .ref (pd 3), .ref (pd 4), .ref (pd 5), .ref (pd 6), .ref (pd 7), .ref (pd 8), .ref (pd 9), .ref (pd 10), .ref (pd 11), .ref (pd 12), .ref (pd 13)])), (pd 8, .inr (0, [.ref ve, .int (nI 0)]))] sz) := by
  refine Met.ofW (cc := cX7_bound) (maxL := 8) (ret := (some .int)) (by decide) rfl ?_
  intro p e s m args below meth c s₁ B hml hv
  obtain ⟨rfl, hsz, hP, hK, hD0⟩ := hv
  have hx := B.exec
  have hb := B.bytes
  have hr := B.returns
  have hts := atoms_spec (ws := wsX7_bound) B.pre
  have hown : s.vm.findClass RX7 = some m.cls := findClass_of_methodNamed B.named
  have hlocks := B.notSynchronized
  subst hsz
  have hD := hD0.self (sz := s.heap.size)
  generalize hAe : va_A [(h0, .inr (7, [.ref tr, .ref ty, .ref wk, .ref bs])), (ty, .inr (5, [.ref tr, .ref tp, .ref (yd 2), .ref (yd 3), .ref (yd 4), .ref (yd 5), .ref (yd 6), .ref (yd 7), .int 0, .int 0, .int 0, .int ((-9)), .int 0, .int ((-9)), .int ((-4))])), (tp, .inr (4, [.ref (pd 0), .ref (pd 1), .ref (pd 2), .ref (pd 3), .ref (pd 4), .ref (pd 5), .ref (pd 6), .ref (pd 7), .ref (pd 8), .ref (pd 9), .ref (pd 10), .ref (pd 11), .ref (pd 12), .ref (pd 13)])), (pd 8, .inr (0, [.ref ve, .int (nI 0)]))] s.heap.size = A at hD ⊢
  have hA : ∀ q : Nat, s.heap.size ≤ q → A q := fun q h => by rw [← hAe]; exact Or.inr h
  have hS : va_S A s.heap s.heap [] := va_S.rf
  have hP : va_P (dC, dI) vwCl [(h0, .inr (7, [.ref tr, .ref ty, .ref wk, .ref bs])), (ty, .inr (5, [.ref tr, .ref tp, .ref (yd 2), .ref (yd 3), .ref (yd 4), .ref (yd 5), .ref (yd 6), .ref (yd 7), .int 0, .int 0, .int 0, .int ((-9)), .int 0, .int ((-9)), .int ((-4))])), (tp, .inr (4, [.ref (pd 0), .ref (pd 1), .ref (pd 2), .ref (pd 3), .ref (pd 4), .ref (pd 5), .ref (pd 6), .ref (pd 7), .ref (pd 8), .ref (pd 9), .ref (pd 10), .ref (pd 11), .ref (pd 12), .ref (pd 13)])), (pd 8, .inr (0, [.ref ve, .int (nI 0)]))] s.heap := hP
  have hl := lv_entry ([.ref h0, .int v, .int a, .int i, .int j]) (n := 8) (Nat.le_of_ble_eq_true rfl)
  rw [lg_entry_eq]
  generalize (lg_sl ([.ref h0, .int v, .int a, .int i, .int j]) ++ List.replicate (8 - (lg_sl ([.ref h0, .int v, .int a, .int i, .int j])).length) Slot.unset).toArray = ls at hl ⊢
  have hl : lv_has ls 8 [(0, .ref h0), (1, .int v), (2, .int a), (3, .int i), (4, .int j)] := hl
  obtain ⟨H, hHe⟩ : ∃ H : Heap, H = s.heap := ⟨_, rfl⟩
  rw [← hHe] at hP ⊢
  have hS : va_S A s.heap H [] := by rw [hHe]; exact va_S.rf
  refine lv_aload_n hx hb dX7_bound_0 rfl (lv_at hl 0 rfl) ?_
  refine va_get (D := (dC, dI)) (ci := 7) (v := .ref ty) (C := RX7) (T := TX7) (N := 4) hx hb hts (fun w h => List.mem_cons_of_mem _ (List.mem_append_left _ (List.mem_append_left _ (List.mem_append_left _ (List.mem_append_left _ (List.mem_append_left _ (List.mem_append_right _ h))))))) hown hK hP 0 rfl rfl 1 (by decide) (hts (.fieldLink RX7 21 "PolarTypes" "typing" "LPolarTypes$Typing;") (List.mem_of_getElem? (i := 1) (by decide +kernel))) (fun _ h9 => h9) rfl dX7_bound_1 ?_
  refine va_get (D := (dC, dI)) (ci := 5) (v := .ref tp) (C := RX5) (T := TX5) (N := 15) hx hb hts (fun w h => List.mem_cons_of_mem _ (List.mem_append_left _ (List.mem_append_left _ (List.mem_append_left _ (List.mem_append_left _ (List.mem_append_right _ h)))))) hown hK hP 1 rfl rfl 1 (by decide) (hts (.fieldLink RX7 127 "PolarTypes$Typing" "types" "LPolarTypes$Types;") (List.mem_of_getElem? (i := 2) (by decide +kernel))) (fun _ h9 => h9) rfl dX7_bound_4 ?_
  refine lv_iload_n hx hb dX7_bound_7 rfl (lv_at hl 1 rfl) ?_
  have hPc := hP.sub (ws' := [(tp, .inr (4, [.ref (pd 0), .ref (pd 1), .ref (pd 2), .ref (pd 3), .ref (pd 4), .ref (pd 5), .ref (pd 6), .ref (pd 7), .ref (pd 8), .ref (pd 9), .ref (pd 10), .ref (pd 11), .ref (pd 12), .ref (pd 13)])), (pd 8, .inr (0, [.ref ve, .int (nI 0)]))]) [2, 3] rfl
  have hDc := hD.sub (ws' := [(tp, .inr (4, [.ref (pd 0), .ref (pd 1), .ref (pd 2), .ref (pd 3), .ref (pd 4), .ref (pd 5), .ref (pd 6), .ref (pd 7), .ref (pd 8), .ref (pd 9), .ref (pd 10), .ref (pd 11), .ref (pd 12), .ref (pd 13)])), (pd 8, .inr (0, [.ref ve, .int (nI 0)]))]) [2, 3] (by decide) rfl
  have hFc := va_free (wc := [(tp, .inr (4, [.ref (pd 0), .ref (pd 1), .ref (pd 2), .ref (pd 3), .ref (pd 4), .ref (pd 5), .ref (pd 6), .ref (pd 7), .ref (pd 8), .ref (pd 9), .ref (pd 10), .ref (pd 11), .ref (pd 12), .ref (pd 13)])), (pd 8, .inr (0, [.ref ve, .int (nI 0)]))]) hD hS hA [2, 3] rfl
  refine va_calli (va_runV (As := [.int v]) (rest := []) ⟨hx, hb, hml, hown, hts⟩ (c_ofVariable0 l dC dI cI tp pd ve v H.size) (cwV 1 hts gX7_bound_X4_ofVariable rfl rfl rfl (by decide +kernel) ⟨Nat.le_of_ble_eq_true rfl, Nat.le_of_ble_eq_true rfl⟩) ⟨fun a U g mk q => by obtain ⟨q0, q1, qP, qK, qD⟩ := q; exact ⟨q0, q1, qP, va_K.moved (u := U) (U := U.calling g mk a) (Vm.Alike.refl U.vm) qK, qD⟩, va_recv hK hPc (ci := 4) (q0 := 0) rfl rfl, fun U hU hW => ⟨rfl, by rw [hU], by rw [hU]; exact hPc, va_K.moved hW.alike hK, hDc.weaken (fun _ _ _ _ => trivial)⟩⟩ rfl rfl hl.1 rfl (lv_room (Nat.le_of_ble_eq_true rfl)) dX7_bound_8 ⟨Nat.le_of_ble_eq_true rfl, Nat.le_of_ble_eq_true rfl⟩) hS (fun q _ h => hFc q h) hFc (fun r_1 u t H1 locs ht hvm hw hB hz1 hk1 hS => ?_)
  obtain ⟨hP1, hK1, hD1⟩ := hB
  rw [ht] at hP1
  obtain ⟨hP, hD⟩ := va_join (wr := [(h0, .inr (7, [.ref tr, .ref ty, .ref wk, .ref bs])), (ty, .inr (5, [.ref tr, .ref tp, .ref (yd 2), .ref (yd 3), .ref (yd 4), .ref (yd 5), .ref (yd 6), .ref (yd 7), .int 0, .int 0, .int 0, .int ((-9)), .int 0, .int ((-9)), .int ((-4))]))]) (w1 := [(tp, .inr (4, [.ref (pd 0), .ref (pd 1), .ref (pd 2), .ref (pd 3), .ref (pd 4), .ref (pd 5), .ref (pd 6), .ref (pd 7), .ref (pd 8), .ref (pd 9), .ref (pd 10), .ref (pd 11), .ref (pd 12), .ref (pd 13)])), (pd 8, .inr (0, [.ref ve, .int (nI 0)]))]) hP hD [2, 3] [0, 1] rfl rfl (by decide) (by decide) hk1 hFc hP1 hD1
  generalize H1 = H at hP hS ⊢
  obtain rfl : r_1 = (-9) := hw
  have hP : va_P (dC, dI) vwCl [(h0, .inr (7, [.ref tr, .ref ty, .ref wk, .ref bs])), (ty, .inr (5, [.ref tr, .ref tp, .ref (yd 2), .ref (yd 3), .ref (yd 4), .ref (yd 5), .ref (yd 6), .ref (yd 7), .int 0, .int 0, .int 0, .int ((-9)), .int 0, .int ((-9)), .int ((-4))])), (tp, .inr (4, [.ref (pd 0), .ref (pd 1), .ref (pd 2), .ref (pd 3), .ref (pd 4), .ref (pd 5), .ref (pd 6), .ref (pd 7), .ref (pd 8), .ref (pd 9), .ref (pd 10), .ref (pd 11), .ref (pd 12), .ref (pd 13)])), (pd 8, .inr (0, [.ref ve, .int (nI 0)]))] H := hP
  have hD : va_D A [(h0, .inr (7, [.ref tr, .ref ty, .ref wk, .ref bs])), (ty, .inr (5, [.ref tr, .ref tp, .ref (yd 2), .ref (yd 3), .ref (yd 4), .ref (yd 5), .ref (yd 6), .ref (yd 7), .int 0, .int 0, .int 0, .int ((-9)), .int 0, .int ((-9)), .int ((-4))])), (tp, .inr (4, [.ref (pd 0), .ref (pd 1), .ref (pd 2), .ref (pd 3), .ref (pd 4), .ref (pd 5), .ref (pd 6), .ref (pd 7), .ref (pd 8), .ref (pd 9), .ref (pd 10), .ref (pd 11), .ref (pd 12), .ref (pd 13)])), (pd 8, .inr (0, [.ref ve, .int (nI 0)]))] := hD
  refine W.widen (k := 0) (n := 0) (Nat.le_of_ble_eq_true rfl) (Nat.le_of_ble_eq_true rfl) ?_
  refine lv_istore (lv' := [(5, .int ((-9))), (0, .ref h0), (1, .int v), (2, .int a), (3, .int i), (4, .int j)]) hx hb dX7_bound_11 hl (by decide) rfl (fun ls hl => ?_)
  refine lv_iload hx hb dX7_bound_13 (lv_at hl 0 rfl) ?_
  refine lv_bipush (v := (-9)) hx hb dX7_bound_15 (by decide) ?_
  refine lv_icmp_ne (tgt := 22) hx hb dX7_bound_17 (by decide) (fun c_2 => absurd (by decide) c_2) (fun c_2 => ?_)
  refine lv_iconst (v := (-1)) hx hb dX7_bound_20 (by decide) ?_
  have hP9 := hP.sub (ws' := []) [] rfl
  have hD9 := hD.sub (ws' := []) [] (by decide) rfl
  refine W.widen (k := 0) (n := 0) (Nat.le_of_ble_eq_true rfl) (Nat.le_of_ble_eq_true rfl) ?_
  exact W.iret (v := (-1)) hx hb hr (fun t ht hW => ⟨⟨(-1), (), rfl, rfl, by rw [ht]; exact hP9, va_K.moved hW.alike hK, hD9⟩, hS.F ht⟩) hS.2.2 dX7_bound_21

set_option maxHeartbeats 4000000 in
set_option maxRecDepth 100000 in
/-- value, of a fresh object -/
theorem c_x_value (l : Launch) (dC : Nat → ClassId) (dI : Nat → Nat → Nat) (cI : ClassId) (h0 : Nat) (tr : Nat) (ty : Nat) (wk : Nat) (bs : Nat) (wd : Nat → Nat) (i : Int32) (sz : Nat) : Met l yX7_value wsX7_value ({ frames := 0, cells := 0, slots := 0, locals := 0 }) (va_Pc [.ref h0, .int i] (fun U => U.heap.size = sz ∧ va_P (dC, dI) vwCl [(h0, .inr (7, [.ref tr, .ref ty, .ref wk, .ref bs])), (wk, .inr (6, [.ref tr, .ref (wd 1), .ref (wd 2), .ref (wd 3), .ref (wd 4), .ref (wd 5), .ref (wd 6), .ref (wd 7), .ref (wd 8), .ref (wd 9), .int 0, .int 0, .int ((-9)), .int ((-9))]))] U.heap ∧ va_K (dC, dI) vwCl [(cI, .int)] U ∧ va_D (fun _ => True) [(h0, .inr (7, [.ref tr, .ref ty, .ref wk, .ref bs])), (wk, .inr (6, [.ref tr, .ref (wd 1), .ref (wd 2), .ref (wd 3), .ref (wd 4), .ref (wd 5), .ref (wd 6), .ref (wd 7), .ref (wd 8), .ref (wd 9), .int 0, .int 0, .int ((-9)), .int ((-9))]))])) (va_Qi (fun (r : Int32) (_ : Unit) => r = (-9)) (fun (_ : Unit) (t : State) => va_P (dC, dI) vwCl [] t.heap ∧ va_K (dC, dI) vwCl [(cI, .int)] t ∧ va_D (va_A [(h0, .inr (7, [.ref tr, .ref ty, .ref wk, .ref bs])), (wk, .inr (6, [.ref tr, .ref (wd 1), .ref (wd 2), .ref (wd 3), .ref (wd 4), .ref (wd 5), .ref (wd 6), .ref (wd 7), .ref (wd 8), .ref (wd 9), .int 0, .int 0, .int ((-9)), .int ((-9))]))] sz) []) (va_A [(h0, .inr (7, [.ref tr, .ref ty, .ref wk, .ref bs])), (wk, .inr (6, [.ref tr, .ref (wd 1), .ref (wd 2), .ref (wd 3), .ref (wd 4), .ref (wd 5), .ref (wd 6), .ref (wd 7), .ref (wd 8), .ref (wd 9), .int 0, .int 0, .int ((-9)), .int ((-9))]))] sz)) 0 0 (va_A [(h0, .inr (7, [.ref tr, .ref ty, .ref wk, .ref bs])), (wk, .inr (6, [.ref tr, .ref (wd 1), .ref (wd 2), .ref (wd 3), .ref (wd 4), .ref (wd 5), .ref (wd 6), .ref (wd 7), .ref (wd 8), .ref (wd 9), .int 0, .int 0, .int ((-9)), .int ((-9))]))] sz) := by
  refine Met.ofW (cc := cX7_value) (maxL := 2) (ret := (some .int)) (by decide) rfl ?_
  intro p e s m args below meth c s₁ B hml hv
  obtain ⟨rfl, hsz, hP, hK, hD0⟩ := hv
  have hx := B.exec
  have hb := B.bytes
  have hr := B.returns
  have hts := atoms_spec (ws := wsX7_value) B.pre
  have hown : s.vm.findClass RX7 = some m.cls := findClass_of_methodNamed B.named
  have hlocks := B.notSynchronized
  subst hsz
  have hD := hD0.self (sz := s.heap.size)
  generalize hAe : va_A [(h0, .inr (7, [.ref tr, .ref ty, .ref wk, .ref bs])), (wk, .inr (6, [.ref tr, .ref (wd 1), .ref (wd 2), .ref (wd 3), .ref (wd 4), .ref (wd 5), .ref (wd 6), .ref (wd 7), .ref (wd 8), .ref (wd 9), .int 0, .int 0, .int ((-9)), .int ((-9))]))] s.heap.size = A at hD ⊢
  have hA : ∀ q : Nat, s.heap.size ≤ q → A q := fun q h => by rw [← hAe]; exact Or.inr h
  have hS : va_S A s.heap s.heap [] := va_S.rf
  have hP : va_P (dC, dI) vwCl [(h0, .inr (7, [.ref tr, .ref ty, .ref wk, .ref bs])), (wk, .inr (6, [.ref tr, .ref (wd 1), .ref (wd 2), .ref (wd 3), .ref (wd 4), .ref (wd 5), .ref (wd 6), .ref (wd 7), .ref (wd 8), .ref (wd 9), .int 0, .int 0, .int ((-9)), .int ((-9))]))] s.heap := hP
  have hl := lv_entry ([.ref h0, .int i]) (n := 2) (Nat.le_of_ble_eq_true rfl)
  rw [lg_entry_eq]
  generalize (lg_sl ([.ref h0, .int i]) ++ List.replicate (2 - (lg_sl ([.ref h0, .int i])).length) Slot.unset).toArray = ls at hl ⊢
  have hl : lv_has ls 2 [(0, .ref h0), (1, .int i)] := hl
  obtain ⟨H, hHe⟩ : ∃ H : Heap, H = s.heap := ⟨_, rfl⟩
  rw [← hHe] at hP ⊢
  have hS : va_S A s.heap H [] := by rw [hHe]; exact va_S.rf
  refine lv_aload_n hx hb dX7_value_0 rfl (lv_at hl 0 rfl) ?_
  refine va_get (D := (dC, dI)) (ci := 7) (v := .ref wk) (C := RX7) (T := TX7) (N := 4) hx hb hts (fun w h => List.mem_cons_of_mem _ (List.mem_append_left _ (List.mem_append_left _ (List.mem_append_right _ h)))) hown hK hP 0 rfl rfl 2 (by decide) (hts (.fieldLink RX7 28 "PolarTypes" "working" "LPolarTypes$Working;") (List.mem_of_getElem? (i := 1) (by decide +kernel))) (fun _ h9 => h9) rfl dX7_value_1 ?_
  refine va_get (D := (dC, dI)) (ci := 6) (v := .int ((-9))) (C := RX6) (T := TX6) (N := 14) hx hb hts (fun w h => List.mem_cons_of_mem _ (List.mem_append_left _ (List.mem_append_right _ h))) hown hK hP 1 rfl rfl 13 (by decide) (hts (.fieldLink RX7 165 "PolarTypes$Working" "outcome" "I") (List.mem_of_getElem? (i := 2) (by decide +kernel))) (fun _ h9 => h9) rfl dX7_value_4 ?_
  refine lv_if_ne (tgt := 24) hx hb dX7_value_7 (by decide) (fun c_1 => ?_) (fun c_1 => absurd c_1 (by decide))
  refine lv_bipush (v := (-9)) hx hb dX7_value_24 (by decide) ?_
  have hP9 := hP.sub (ws' := []) [] rfl
  have hD9 := hD.sub (ws' := []) [] (by decide) rfl
  refine W.widen (k := 0) (n := 0) (Nat.le_of_ble_eq_true rfl) (Nat.le_of_ble_eq_true rfl) ?_
  exact W.iret (v := (-9)) hx hb hr (fun t ht hW => ⟨⟨(-9), (), rfl, rfl, by rw [ht]; exact hP9, va_K.moved hW.alike hK, hD9⟩, hS.F ht⟩) hS.2.2 dX7_value_26

set_option maxHeartbeats 4000000 in
set_option maxRecDepth 100000 in
/-- worked, of a fresh object -/
theorem c_x_worked (l : Launch) (dC : Nat → ClassId) (dI : Nat → Nat → Nat) (cI : ClassId) (h0 : Nat) (tr : Nat) (ty : Nat) (wk : Nat) (bs : Nat) (wd : Nat → Nat) (sz : Nat) : Met l yX7_worked wsX7_worked ({ frames := 0, cells := 0, slots := 0, locals := 0 }) (va_Pc [.ref h0] (fun U => U.heap.size = sz ∧ va_P (dC, dI) vwCl [(h0, .inr (7, [.ref tr, .ref ty, .ref wk, .ref bs])), (wk, .inr (6, [.ref tr, .ref (wd 1), .ref (wd 2), .ref (wd 3), .ref (wd 4), .ref (wd 5), .ref (wd 6), .ref (wd 7), .ref (wd 8), .ref (wd 9), .int 0, .int 0, .int ((-9)), .int ((-9))]))] U.heap ∧ va_K (dC, dI) vwCl [(cI, .int)] U ∧ va_D (fun _ => True) [(h0, .inr (7, [.ref tr, .ref ty, .ref wk, .ref bs])), (wk, .inr (6, [.ref tr, .ref (wd 1), .ref (wd 2), .ref (wd 3), .ref (wd 4), .ref (wd 5), .ref (wd 6), .ref (wd 7), .ref (wd 8), .ref (wd 9), .int 0, .int 0, .int ((-9)), .int ((-9))]))])) (va_Qi (fun (r : Int32) (_ : Unit) => r = 0) (fun (_ : Unit) (t : State) => va_P (dC, dI) vwCl [] t.heap ∧ va_K (dC, dI) vwCl [(cI, .int)] t ∧ va_D (va_A [(h0, .inr (7, [.ref tr, .ref ty, .ref wk, .ref bs])), (wk, .inr (6, [.ref tr, .ref (wd 1), .ref (wd 2), .ref (wd 3), .ref (wd 4), .ref (wd 5), .ref (wd 6), .ref (wd 7), .ref (wd 8), .ref (wd 9), .int 0, .int 0, .int ((-9)), .int ((-9))]))] sz) []) (va_A [(h0, .inr (7, [.ref tr, .ref ty, .ref wk, .ref bs])), (wk, .inr (6, [.ref tr, .ref (wd 1), .ref (wd 2), .ref (wd 3), .ref (wd 4), .ref (wd 5), .ref (wd 6), .ref (wd 7), .ref (wd 8), .ref (wd 9), .int 0, .int 0, .int ((-9)), .int ((-9))]))] sz)) 0 0 (va_A [(h0, .inr (7, [.ref tr, .ref ty, .ref wk, .ref bs])), (wk, .inr (6, [.ref tr, .ref (wd 1), .ref (wd 2), .ref (wd 3), .ref (wd 4), .ref (wd 5), .ref (wd 6), .ref (wd 7), .ref (wd 8), .ref (wd 9), .int 0, .int 0, .int ((-9)), .int ((-9))]))] sz) := by
  refine Met.ofW (cc := cX7_worked) (maxL := 1) (ret := (some .int)) (by decide) rfl ?_
  intro p e s m args below meth c s₁ B hml hv
  obtain ⟨rfl, hsz, hP, hK, hD0⟩ := hv
  have hx := B.exec
  have hb := B.bytes
  have hr := B.returns
  have hts := atoms_spec (ws := wsX7_worked) B.pre
  have hown : s.vm.findClass RX7 = some m.cls := findClass_of_methodNamed B.named
  have hlocks := B.notSynchronized
  subst hsz
  have hD := hD0.self (sz := s.heap.size)
  generalize hAe : va_A [(h0, .inr (7, [.ref tr, .ref ty, .ref wk, .ref bs])), (wk, .inr (6, [.ref tr, .ref (wd 1), .ref (wd 2), .ref (wd 3), .ref (wd 4), .ref (wd 5), .ref (wd 6), .ref (wd 7), .ref (wd 8), .ref (wd 9), .int 0, .int 0, .int ((-9)), .int ((-9))]))] s.heap.size = A at hD ⊢
  have hA : ∀ q : Nat, s.heap.size ≤ q → A q := fun q h => by rw [← hAe]; exact Or.inr h
  have hS : va_S A s.heap s.heap [] := va_S.rf
  have hP : va_P (dC, dI) vwCl [(h0, .inr (7, [.ref tr, .ref ty, .ref wk, .ref bs])), (wk, .inr (6, [.ref tr, .ref (wd 1), .ref (wd 2), .ref (wd 3), .ref (wd 4), .ref (wd 5), .ref (wd 6), .ref (wd 7), .ref (wd 8), .ref (wd 9), .int 0, .int 0, .int ((-9)), .int ((-9))]))] s.heap := hP
  have hl := lv_entry ([.ref h0]) (n := 1) (Nat.le_of_ble_eq_true rfl)
  rw [lg_entry_eq]
  generalize (lg_sl ([.ref h0]) ++ List.replicate (1 - (lg_sl ([.ref h0])).length) Slot.unset).toArray = ls at hl ⊢
  have hl : lv_has ls 1 [(0, .ref h0)] := hl
  obtain ⟨H, hHe⟩ : ∃ H : Heap, H = s.heap := ⟨_, rfl⟩
  rw [← hHe] at hP ⊢
  have hS : va_S A s.heap H [] := by rw [hHe]; exact va_S.rf
  refine lv_aload_n hx hb dX7_worked_0 rfl (lv_at hl 0 rfl) ?_
  refine va_get (D := (dC, dI)) (ci := 7) (v := .ref wk) (C := RX7) (T := TX7) (N := 4) hx hb hts (fun w h => List.mem_cons_of_mem _ (List.mem_append_left _ (List.mem_append_right _ h))) hown hK hP 0 rfl rfl 2 (by decide) (hts (.fieldLink RX7 28 "PolarTypes" "working" "LPolarTypes$Working;") (List.mem_of_getElem? (i := 1) (by decide +kernel))) (fun _ h9 => h9) rfl dX7_worked_1 ?_
  refine va_get (D := (dC, dI)) (ci := 6) (v := .int 0) (C := RX6) (T := TX6) (N := 14) hx hb hts (fun w h => List.mem_cons_of_mem _ (List.mem_append_right _ h)) hown hK hP 1 rfl rfl 11 (by decide) (hts (.fieldLink RX7 167 "PolarTypes$Working" "begun" "I") (List.mem_of_getElem? (i := 2) (by decide +kernel))) (fun _ h9 => h9) rfl dX7_worked_4 ?_
  have hP9 := hP.sub (ws' := []) [] rfl
  have hD9 := hD.sub (ws' := []) [] (by decide) rfl
  refine W.widen (k := 0) (n := 0) (Nat.le_of_ble_eq_true rfl) (Nat.le_of_ble_eq_true rfl) ?_
  exact W.iret (v := 0) hx hb hr (fun t ht hW => ⟨⟨0, (), rfl, rfl, by rw [ht]; exact hP9, va_K.moved hW.alike hK, hD9⟩, hS.F ht⟩) hS.2.2 dX7_worked_7

set_option maxHeartbeats 4000000 in
set_option maxRecDepth 100000 in
/-- stuck, of a fresh object -/
theorem c_x_stuck (l : Launch) (dC : Nat → ClassId) (dI : Nat → Nat → Nat) (cI : ClassId) (h0 : Nat) (tr : Nat) (ty : Nat) (wk : Nat) (bs : Nat) (wd : Nat → Nat) (sz : Nat) : Met l yX7_stuck wsX7_stuck ({ frames := 0, cells := 0, slots := 0, locals := 0 }) (va_Pc [.ref h0] (fun U => U.heap.size = sz ∧ va_P (dC, dI) vwCl [(h0, .inr (7, [.ref tr, .ref ty, .ref wk, .ref bs])), (wk, .inr (6, [.ref tr, .ref (wd 1), .ref (wd 2), .ref (wd 3), .ref (wd 4), .ref (wd 5), .ref (wd 6), .ref (wd 7), .ref (wd 8), .ref (wd 9), .int 0, .int 0, .int ((-9)), .int ((-9))]))] U.heap ∧ va_K (dC, dI) vwCl [(cI, .int)] U ∧ va_D (fun _ => True) [(h0, .inr (7, [.ref tr, .ref ty, .ref wk, .ref bs])), (wk, .inr (6, [.ref tr, .ref (wd 1), .ref (wd 2), .ref (wd 3), .ref (wd 4), .ref (wd 5), .ref (wd 6), .ref (wd 7), .ref (wd 8), .ref (wd 9), .int 0, .int 0, .int ((-9)), .int ((-9))]))])) (va_Qi (fun (r : Int32) (_ : Unit) => r = (-9)) (fun (_ : Unit) (t : State) => va_P (dC, dI) vwCl [] t.heap ∧ va_K (dC, dI) vwCl [(cI, .int)] t ∧ va_D (va_A [(h0, .inr (7, [.ref tr, .ref ty, .ref wk, .ref bs])), (wk, .inr (6, [.ref tr, .ref (wd 1), .ref (wd 2), .ref (wd 3), .ref (wd 4), .ref (wd 5), .ref (wd 6), .ref (wd 7), .ref (wd 8), .ref (wd 9), .int 0, .int 0, .int ((-9)), .int ((-9))]))] sz) []) (va_A [(h0, .inr (7, [.ref tr, .ref ty, .ref wk, .ref bs])), (wk, .inr (6, [.ref tr, .ref (wd 1), .ref (wd 2), .ref (wd 3), .ref (wd 4), .ref (wd 5), .ref (wd 6), .ref (wd 7), .ref (wd 8), .ref (wd 9), .int 0, .int 0, .int ((-9)), .int ((-9))]))] sz)) 0 0 (va_A [(h0, .inr (7, [.ref tr, .ref ty, .ref wk, .ref bs])), (wk, .inr (6, [.ref tr, .ref (wd 1), .ref (wd 2), .ref (wd 3), .ref (wd 4), .ref (wd 5), .ref (wd 6), .ref (wd 7), .ref (wd 8), .ref (wd 9), .int 0, .int 0, .int ((-9)), .int ((-9))]))] sz) := by
  refine Met.ofW (cc := cX7_stuck) (maxL := 1) (ret := (some .int)) (by decide) rfl ?_
  intro p e s m args below meth c s₁ B hml hv
  obtain ⟨rfl, hsz, hP, hK, hD0⟩ := hv
  have hx := B.exec
  have hb := B.bytes
  have hr := B.returns
  have hts := atoms_spec (ws := wsX7_stuck) B.pre
  have hown : s.vm.findClass RX7 = some m.cls := findClass_of_methodNamed B.named
  have hlocks := B.notSynchronized
  subst hsz
  have hD := hD0.self (sz := s.heap.size)
  generalize hAe : va_A [(h0, .inr (7, [.ref tr, .ref ty, .ref wk, .ref bs])), (wk, .inr (6, [.ref tr, .ref (wd 1), .ref (wd 2), .ref (wd 3), .ref (wd 4), .ref (wd 5), .ref (wd 6), .ref (wd 7), .ref (wd 8), .ref (wd 9), .int 0, .int 0, .int ((-9)), .int ((-9))]))] s.heap.size = A at hD ⊢
  have hA : ∀ q : Nat, s.heap.size ≤ q → A q := fun q h => by rw [← hAe]; exact Or.inr h
  have hS : va_S A s.heap s.heap [] := va_S.rf
  have hP : va_P (dC, dI) vwCl [(h0, .inr (7, [.ref tr, .ref ty, .ref wk, .ref bs])), (wk, .inr (6, [.ref tr, .ref (wd 1), .ref (wd 2), .ref (wd 3), .ref (wd 4), .ref (wd 5), .ref (wd 6), .ref (wd 7), .ref (wd 8), .ref (wd 9), .int 0, .int 0, .int ((-9)), .int ((-9))]))] s.heap := hP
  have hl := lv_entry ([.ref h0]) (n := 1) (Nat.le_of_ble_eq_true rfl)
  rw [lg_entry_eq]
  generalize (lg_sl ([.ref h0]) ++ List.replicate (1 - (lg_sl ([.ref h0])).length) Slot.unset).toArray = ls at hl ⊢
  have hl : lv_has ls 1 [(0, .ref h0)] := hl
  obtain ⟨H, hHe⟩ : ∃ H : Heap, H = s.heap := ⟨_, rfl⟩
  rw [← hHe] at hP ⊢
  have hS : va_S A s.heap H [] := by rw [hHe]; exact va_S.rf
  refine lv_aload_n hx hb dX7_stuck_0 rfl (lv_at hl 0 rfl) ?_
  refine va_get (D := (dC, dI)) (ci := 7) (v := .ref wk) (C := RX7) (T := TX7) (N := 4) hx hb hts (fun w h => List.mem_cons_of_mem _ (List.mem_append_left _ (List.mem_append_right _ h))) hown hK hP 0 rfl rfl 2 (by decide) (hts (.fieldLink RX7 28 "PolarTypes" "working" "LPolarTypes$Working;") (List.mem_of_getElem? (i := 1) (by decide +kernel))) (fun _ h9 => h9) rfl dX7_stuck_1 ?_
  refine va_get (D := (dC, dI)) (ci := 6) (v := .int ((-9))) (C := RX6) (T := TX6) (N := 14) hx hb hts (fun w h => List.mem_cons_of_mem _ (List.mem_append_right _ h)) hown hK hP 1 rfl rfl 12 (by decide) (hts (.fieldLink RX7 170 "PolarTypes$Working" "place" "I") (List.mem_of_getElem? (i := 2) (by decide +kernel))) (fun _ h9 => h9) rfl dX7_stuck_4 ?_
  have hP9 := hP.sub (ws' := []) [] rfl
  have hD9 := hD.sub (ws' := []) [] (by decide) rfl
  refine W.widen (k := 0) (n := 0) (Nat.le_of_ble_eq_true rfl) (Nat.le_of_ble_eq_true rfl) ?_
  exact W.iret (v := (-9)) hx hb hr (fun t ht hW => ⟨⟨(-9), (), rfl, rfl, by rw [ht]; exact hP9, va_K.moved hW.alike hK, hD9⟩, hS.F ht⟩) hS.2.2 dX7_stuck_7

set_option maxHeartbeats 4000000 in
set_option maxRecDepth 100000 in
/-- count, of a fresh object -/
theorem c_x_count (l : Launch) (dC : Nat → ClassId) (dI : Nat → Nat → Nat) (cI : ClassId) (h0 : Nat) (tr : Nat) (ty : Nat) (wk : Nat) (bs : Nat) (td : Nat → Nat) (te : Nat → Nat) (tp : Nat) (yd : Nat → Nat) (pd : Nat → Nat) (ve : Nat) (wd : Nat → Nat) (w : Int32) (sz : Nat) : Met l yX7_count wsX7_count ({ frames := 2, cells := 0, slots := 0, locals := 43 }) (va_Pc [.ref h0, .int w] (fun U => U.heap.size = sz ∧ va_P (dC, dI) vwCl [(h0, .inr (7, [.ref tr, .ref ty, .ref wk, .ref bs])), (tr, .inr (3, [.ref (td 0), .ref (td 1), .ref (td 2), .ref (td 3), .ref (td 4), .ref (td 5)])), (td 0, .inr (0, [.ref (te 0), .int (nI 0)])), (ty, .inr (5, [.ref tr, .ref tp, .ref (yd 2), .ref (yd 3), .ref (yd 4), .ref (yd 5), .ref (yd 6), .ref (yd 7), .int 0, .int 0, .int 0, .int ((-9)), .int 0, .int ((-9)), .int ((-4))])), (tp, .inr (4, [.ref (pd 0), .ref (pd 1), .ref (pd 2), .ref (pd 3), .ref (pd 4), .ref (pd 5), .ref (pd 6), .ref (pd 7), .ref (pd 8), .ref (pd 9), .ref (pd 10), .ref (pd 11), .ref (pd 12), .ref (pd 13)])), (pd 8, .inr (0, [.ref ve, .int (nI 0)])), (wk, .inr (6, [.ref tr, .ref (wd 1), .ref (wd 2), .ref (wd 3), .ref (wd 4), .ref (wd 5), .ref (wd 6), .ref (wd 7), .ref (wd 8), .ref (wd 9), .int 0, .int 0, .int ((-9)), .int ((-9))]))] U.heap ∧ va_K (dC, dI) vwCl [(cI, .int)] U ∧ va_D (fun _ => True) [(h0, .inr (7, [.ref tr, .ref ty, .ref wk, .ref bs])), (tr, .inr (3, [.ref (td 0), .ref (td 1), .ref (td 2), .ref (td 3), .ref (td 4), .ref (td 5)])), (td 0, .inr (0, [.ref (te 0), .int (nI 0)])), (ty, .inr (5, [.ref tr, .ref tp, .ref (yd 2), .ref (yd 3), .ref (yd 4), .ref (yd 5), .ref (yd 6), .ref (yd 7), .int 0, .int 0, .int 0, .int ((-9)), .int 0, .int ((-9)), .int ((-4))])), (tp, .inr (4, [.ref (pd 0), .ref (pd 1), .ref (pd 2), .ref (pd 3), .ref (pd 4), .ref (pd 5), .ref (pd 6), .ref (pd 7), .ref (pd 8), .ref (pd 9), .ref (pd 10), .ref (pd 11), .ref (pd 12), .ref (pd 13)])), (pd 8, .inr (0, [.ref ve, .int (nI 0)])), (wk, .inr (6, [.ref tr, .ref (wd 1), .ref (wd 2), .ref (wd 3), .ref (wd 4), .ref (wd 5), .ref (wd 6), .ref (wd 7), .ref (wd 8), .ref (wd 9), .int 0, .int 0, .int ((-9)), .int ((-9))]))])) (va_Qi (fun (r : Int32) (_ : Unit) => r = p_count w) (fun (_ : Unit) (t : State) => va_P (dC, dI) vwCl [] t.heap ∧ va_K (dC, dI) vwCl [(cI, .int)] t ∧ va_D (va_A [(h0, .inr (7, [.ref tr, .ref ty, .ref wk, .ref bs])), (tr, .inr (3, [.ref (td 0), .ref (td 1), .ref (td 2), .ref (td 3), .ref (td 4), .ref (td 5)])), (td 0, .inr (0, [.ref (te 0), .int (nI 0)])), (ty, .inr (5, [.ref tr, .ref tp, .ref (yd 2), .ref (yd 3), .ref (yd 4), .ref (yd 5), .ref (yd 6), .ref (yd 7), .int 0, .int 0, .int 0, .int ((-9)), .int 0, .int ((-9)), .int ((-4))])), (tp, .inr (4, [.ref (pd 0), .ref (pd 1), .ref (pd 2), .ref (pd 3), .ref (pd 4), .ref (pd 5), .ref (pd 6), .ref (pd 7), .ref (pd 8), .ref (pd 9), .ref (pd 10), .ref (pd 11), .ref (pd 12), .ref (pd 13)])), (pd 8, .inr (0, [.ref ve, .int (nI 0)])), (wk, .inr (6, [.ref tr, .ref (wd 1), .ref (wd 2), .ref (wd 3), .ref (wd 4), .ref (wd 5), .ref (wd 6), .ref (wd 7), .ref (wd 8), .ref (wd 9), .int 0, .int 0, .int ((-9)), .int ((-9))]))] sz) []) (va_A [(h0, .inr (7, [.ref tr, .ref ty, .ref wk, .ref bs])), (tr, .inr (3, [.ref (td 0), .ref (td 1), .ref (td 2), .ref (td 3), .ref (td 4), .ref (td 5)])), (td 0, .inr (0, [.ref (te 0), .int (nI 0)])), (ty, .inr (5, [.ref tr, .ref tp, .ref (yd 2), .ref (yd 3), .ref (yd 4), .ref (yd 5), .ref (yd 6), .ref (yd 7), .int 0, .int 0, .int 0, .int ((-9)), .int 0, .int ((-9)), .int ((-4))])), (tp, .inr (4, [.ref (pd 0), .ref (pd 1), .ref (pd 2), .ref (pd 3), .ref (pd 4), .ref (pd 5), .ref (pd 6), .ref (pd 7), .ref (pd 8), .ref (pd 9), .ref (pd 10), .ref (pd 11), .ref (pd 12), .ref (pd 13)])), (pd 8, .inr (0, [.ref ve, .int (nI 0)])), (wk, .inr (6, [.ref tr, .ref (wd 1), .ref (wd 2), .ref (wd 3), .ref (wd 4), .ref (wd 5), .ref (wd 6), .ref (wd 7), .ref (wd 8), .ref (wd 9), .int 0, .int 0, .int ((-9)), .int ((-9))]))] sz)) 0 0 (va_A [(h0, .inr (7, [.ref tr, .ref ty, .ref wk, .ref bs])), (tr, .inr (3, [.ref (td 0), .ref (td 1), .ref (td 2), .ref (td 3), .ref (td 4), .ref (td 5)])), (td 0, .inr (0, [.ref (te 0), .int (nI 0)])), (ty, .inr (5, [.ref tr, .ref tp, .ref (yd 2), .ref (yd 3), .ref (yd 4), .ref (yd 5), .ref (yd 6), .ref (yd 7), .int 0, .int 0, .int 0, .int ((-9)), .int 0, .int ((-9)), .int ((-4))])), (tp, .inr (4, [.ref (pd 0), .ref (pd 1), .ref (pd 2), .ref (pd 3), .ref (pd 4), .ref (pd 5), .ref (pd 6), .ref (pd 7), .ref (pd 8), .ref (pd 9), .ref (pd 10), .ref (pd 11), .ref (pd 12), .ref (pd 13)])), (pd 8, .inr (0, [.ref ve, .int (nI 0)])), (wk, .inr (6, [.ref tr, .ref (wd 1), .ref (wd 2), .ref (wd 3), .ref (wd 4), .ref (wd 5), .ref (wd 6), .ref (wd 7), .ref (wd 8), .ref (wd 9), .int 0, .int 0, .int ((-9)), .int ((-9))]))] sz) := by
  refine Met.ofW (cc := cX7_count) (maxL := 2) (ret := (some .int)) (by decide) rfl ?_
  intro p e s m args below meth c s₁ B hml hv
  obtain ⟨rfl, hsz, hP, hK, hD0⟩ := hv
  have hx := B.exec
  have hb := B.bytes
  have hr := B.returns
  have hts := atoms_spec (ws := wsX7_count) B.pre
  have hown : s.vm.findClass RX7 = some m.cls := findClass_of_methodNamed B.named
  have hlocks := B.notSynchronized
  subst hsz
  have hD := hD0.self (sz := s.heap.size)
  generalize hAe : va_A [(h0, .inr (7, [.ref tr, .ref ty, .ref wk, .ref bs])), (tr, .inr (3, [.ref (td 0), .ref (td 1), .ref (td 2), .ref (td 3), .ref (td 4), .ref (td 5)])), (td 0, .inr (0, [.ref (te 0), .int (nI 0)])), (ty, .inr (5, [.ref tr, .ref tp, .ref (yd 2), .ref (yd 3), .ref (yd 4), .ref (yd 5), .ref (yd 6), .ref (yd 7), .int 0, .int 0, .int 0, .int ((-9)), .int 0, .int ((-9)), .int ((-4))])), (tp, .inr (4, [.ref (pd 0), .ref (pd 1), .ref (pd 2), .ref (pd 3), .ref (pd 4), .ref (pd 5), .ref (pd 6), .ref (pd 7), .ref (pd 8), .ref (pd 9), .ref (pd 10), .ref (pd 11), .ref (pd 12), .ref (pd 13)])), (pd 8, .inr (0, [.ref ve, .int (nI 0)])), (wk, .inr (6, [.ref tr, .ref (wd 1), .ref (wd 2), .ref (wd 3), .ref (wd 4), .ref (wd 5), .ref (wd 6), .ref (wd 7), .ref (wd 8), .ref (wd 9), .int 0, .int 0, .int ((-9)), .int ((-9))]))] s.heap.size = A at hD ⊢
  have hA : ∀ q : Nat, s.heap.size ≤ q → A q := fun q h => by rw [← hAe]; exact Or.inr h
  have hS : va_S A s.heap s.heap [] := va_S.rf
  have hP : va_P (dC, dI) vwCl [(h0, .inr (7, [.ref tr, .ref ty, .ref wk, .ref bs])), (tr, .inr (3, [.ref (td 0), .ref (td 1), .ref (td 2), .ref (td 3), .ref (td 4), .ref (td 5)])), (td 0, .inr (0, [.ref (te 0), .int (nI 0)])), (ty, .inr (5, [.ref tr, .ref tp, .ref (yd 2), .ref (yd 3), .ref (yd 4), .ref (yd 5), .ref (yd 6), .ref (yd 7), .int 0, .int 0, .int 0, .int ((-9)), .int 0, .int ((-9)), .int ((-4))])), (tp, .inr (4, [.ref (pd 0), .ref (pd 1), .ref (pd 2), .ref (pd 3), .ref (pd 4), .ref (pd 5), .ref (pd 6), .ref (pd 7), .ref (pd 8), .ref (pd 9), .ref (pd 10), .ref (pd 11), .ref (pd 12), .ref (pd 13)])), (pd 8, .inr (0, [.ref ve, .int (nI 0)])), (wk, .inr (6, [.ref tr, .ref (wd 1), .ref (wd 2), .ref (wd 3), .ref (wd 4), .ref (wd 5), .ref (wd 6), .ref (wd 7), .ref (wd 8), .ref (wd 9), .int 0, .int 0, .int ((-9)), .int ((-9))]))] s.heap := hP
  have hl := lv_entry ([.ref h0, .int w]) (n := 2) (Nat.le_of_ble_eq_true rfl)
  rw [lg_entry_eq]
  generalize (lg_sl ([.ref h0, .int w]) ++ List.replicate (2 - (lg_sl ([.ref h0, .int w])).length) Slot.unset).toArray = ls at hl ⊢
  have hl : lv_has ls 2 [(0, .ref h0), (1, .int w)] := hl
  obtain ⟨H, hHe⟩ : ∃ H : Heap, H = s.heap := ⟨_, rfl⟩
  rw [← hHe] at hP ⊢
  have hS : va_S A s.heap H [] := by rw [hHe]; exact va_S.rf
  refine lv_iload_n hx hb dX7_count_0 rfl (lv_at hl 1 rfl) ?_
  rcases Decidable.em (w = 0) with c_1 | c_1
  · skip
    refine lv_tableIn (tgt := 32) hx hb dX7_count_1 (by rw [c_1]; decide) (by rw [c_1]; decide) (by rw [c_1]; rfl) (by decide) ?_
    refine lv_aload_n hx hb dX7_count_32 rfl (lv_at hl 0 rfl) ?_
    refine va_get (D := (dC, dI)) (ci := 7) (v := .ref tr) (C := RX7) (T := TX7) (N := 4) hx hb hts (fun w h => List.mem_cons_of_mem _ (List.mem_append_left _ (List.mem_append_left _ (List.mem_append_left _ (List.mem_append_left _ (List.mem_append_left _ (List.mem_append_right _ h))))))) hown hK hP 0 rfl rfl 0 (by decide) (hts (.fieldLink RX7 12 "PolarTypes" "tree" "LPolarTypes$Tree;") (List.mem_of_getElem? (i := 1) (by decide +kernel))) (fun _ h9 => h9) rfl dX7_count_33 ?_
    have hPc := hP.sub (ws' := [(tr, .inr (3, [.ref (td 0), .ref (td 1), .ref (td 2), .ref (td 3), .ref (td 4), .ref (td 5)])), (td 0, .inr (0, [.ref (te 0), .int (nI 0)]))]) [1, 2] rfl
    have hDc := hD.sub (ws' := [(tr, .inr (3, [.ref (td 0), .ref (td 1), .ref (td 2), .ref (td 3), .ref (td 4), .ref (td 5)])), (td 0, .inr (0, [.ref (te 0), .int (nI 0)]))]) [1, 2] (by decide) rfl
    have hFc := va_free (wc := [(tr, .inr (3, [.ref (td 0), .ref (td 1), .ref (td 2), .ref (td 3), .ref (td 4), .ref (td 5)])), (td 0, .inr (0, [.ref (te 0), .int (nI 0)]))]) hD hS hA [1, 2] rfl
    refine va_calli (va_runV (As := []) (rest := []) ⟨hx, hb, hml, hown, hts⟩ (c_size0 l dC dI cI tr td (te 0) H.size) (cwV 0 hts gX7_count_X3_size rfl rfl rfl (by decide +kernel) ⟨Nat.le_of_ble_eq_true rfl, Nat.le_of_ble_eq_true rfl⟩) ⟨fun a U g mk q => by obtain ⟨q0, q1, qP, qK, qD⟩ := q; exact ⟨q0, q1, qP, va_K.moved (u := U) (U := U.calling g mk a) (Vm.Alike.refl U.vm) qK, qD⟩, va_recv hK hPc (ci := 3) (q0 := 0) rfl rfl, fun U hU hW => ⟨rfl, by rw [hU], by rw [hU]; exact hPc, va_K.moved hW.alike hK, hDc.weaken (fun _ _ _ _ => trivial)⟩⟩ rfl rfl hl.1 rfl (lv_room (Nat.le_of_ble_eq_true rfl)) dX7_count_36 ⟨Nat.le_of_ble_eq_true rfl, Nat.le_of_ble_eq_true rfl⟩) hS (fun q _ h => hFc q h) hFc (fun r_2 u t H1 locs ht hvm hw hB hz1 hk1 hS => ?_)
    obtain ⟨hP1, hK1, hD1⟩ := hB
    rw [ht] at hP1
    obtain ⟨hP, hD⟩ := va_join (wr := [(h0, .inr (7, [.ref tr, .ref ty, .ref wk, .ref bs])), (ty, .inr (5, [.ref tr, .ref tp, .ref (yd 2), .ref (yd 3), .ref (yd 4), .ref (yd 5), .ref (yd 6), .ref (yd 7), .int 0, .int 0, .int 0, .int ((-9)), .int 0, .int ((-9)), .int ((-4))])), (tp, .inr (4, [.ref (pd 0), .ref (pd 1), .ref (pd 2), .ref (pd 3), .ref (pd 4), .ref (pd 5), .ref (pd 6), .ref (pd 7), .ref (pd 8), .ref (pd 9), .ref (pd 10), .ref (pd 11), .ref (pd 12), .ref (pd 13)])), (pd 8, .inr (0, [.ref ve, .int (nI 0)])), (wk, .inr (6, [.ref tr, .ref (wd 1), .ref (wd 2), .ref (wd 3), .ref (wd 4), .ref (wd 5), .ref (wd 6), .ref (wd 7), .ref (wd 8), .ref (wd 9), .int 0, .int 0, .int ((-9)), .int ((-9))]))]) (w1 := [(tr, .inr (3, [.ref (td 0), .ref (td 1), .ref (td 2), .ref (td 3), .ref (td 4), .ref (td 5)])), (td 0, .inr (0, [.ref (te 0), .int (nI 0)]))]) hP hD [1, 2] [0, 3, 4, 5, 6] rfl rfl (by decide) (by decide) hk1 hFc hP1 hD1
    generalize H1 = H at hP hS ⊢
    obtain rfl : r_2 = 0 := hw
    have hP : va_P (dC, dI) vwCl [(h0, .inr (7, [.ref tr, .ref ty, .ref wk, .ref bs])), (ty, .inr (5, [.ref tr, .ref tp, .ref (yd 2), .ref (yd 3), .ref (yd 4), .ref (yd 5), .ref (yd 6), .ref (yd 7), .int 0, .int 0, .int 0, .int ((-9)), .int 0, .int ((-9)), .int ((-4))])), (tp, .inr (4, [.ref (pd 0), .ref (pd 1), .ref (pd 2), .ref (pd 3), .ref (pd 4), .ref (pd 5), .ref (pd 6), .ref (pd 7), .ref (pd 8), .ref (pd 9), .ref (pd 10), .ref (pd 11), .ref (pd 12), .ref (pd 13)])), (pd 8, .inr (0, [.ref ve, .int (nI 0)])), (wk, .inr (6, [.ref tr, .ref (wd 1), .ref (wd 2), .ref (wd 3), .ref (wd 4), .ref (wd 5), .ref (wd 6), .ref (wd 7), .ref (wd 8), .ref (wd 9), .int 0, .int 0, .int ((-9)), .int ((-9))])), (tr, .inr (3, [.ref (td 0), .ref (td 1), .ref (td 2), .ref (td 3), .ref (td 4), .ref (td 5)])), (td 0, .inr (0, [.ref (te 0), .int (nI 0)]))] H := hP
    have hD : va_D A [(h0, .inr (7, [.ref tr, .ref ty, .ref wk, .ref bs])), (ty, .inr (5, [.ref tr, .ref tp, .ref (yd 2), .ref (yd 3), .ref (yd 4), .ref (yd 5), .ref (yd 6), .ref (yd 7), .int 0, .int 0, .int 0, .int ((-9)), .int 0, .int ((-9)), .int ((-4))])), (tp, .inr (4, [.ref (pd 0), .ref (pd 1), .ref (pd 2), .ref (pd 3), .ref (pd 4), .ref (pd 5), .ref (pd 6), .ref (pd 7), .ref (pd 8), .ref (pd 9), .ref (pd 10), .ref (pd 11), .ref (pd 12), .ref (pd 13)])), (pd 8, .inr (0, [.ref ve, .int (nI 0)])), (wk, .inr (6, [.ref tr, .ref (wd 1), .ref (wd 2), .ref (wd 3), .ref (wd 4), .ref (wd 5), .ref (wd 6), .ref (wd 7), .ref (wd 8), .ref (wd 9), .int 0, .int 0, .int ((-9)), .int ((-9))])), (tr, .inr (3, [.ref (td 0), .ref (td 1), .ref (td 2), .ref (td 3), .ref (td 4), .ref (td 5)])), (td 0, .inr (0, [.ref (te 0), .int (nI 0)]))] := hD
    refine W.widen (k := 0) (n := 0) (Nat.le_of_ble_eq_true rfl) (Nat.le_of_ble_eq_true rfl) ?_
    have hP9 := hP.sub (ws' := []) [] rfl
    have hD9 := hD.sub (ws' := []) [] (by decide) rfl
    refine W.widen (k := 0) (n := 0) (Nat.le_of_ble_eq_true rfl) (Nat.le_of_ble_eq_true rfl) ?_
    exact W.iret (v := 0) hx hb hr (fun t ht hW => ⟨⟨0, (), rfl, (by simp only [p_count, if_pos c_1]), by rw [ht]; exact hP9, va_K.moved hW.alike hK, hD9⟩, hS.F ht⟩) hS.2.2 dX7_count_39
  rcases Decidable.em (w = 1) with c_3 | c_3
  · skip
    refine lv_tableIn (tgt := 40) hx hb dX7_count_1 (by rw [c_3]; decide) (by rw [c_3]; decide) (by rw [c_3]; rfl) (by decide) ?_
    refine lv_aload_n hx hb dX7_count_40 rfl (lv_at hl 0 rfl) ?_
    refine va_get (D := (dC, dI)) (ci := 7) (v := .ref ty) (C := RX7) (T := TX7) (N := 4) hx hb hts (fun w h => List.mem_cons_of_mem _ (List.mem_append_left _ (List.mem_append_left _ (List.mem_append_left _ (List.mem_append_left _ (List.mem_append_left _ (List.mem_append_right _ h))))))) hown hK hP 0 rfl rfl 1 (by decide) (hts (.fieldLink RX7 21 "PolarTypes" "typing" "LPolarTypes$Typing;") (List.mem_of_getElem? (i := 2) (by decide +kernel))) (fun _ h9 => h9) rfl dX7_count_41 ?_
    refine va_get (D := (dC, dI)) (ci := 5) (v := .ref tp) (C := RX5) (T := TX5) (N := 15) hx hb hts (fun w h => List.mem_cons_of_mem _ (List.mem_append_left _ (List.mem_append_left _ (List.mem_append_left _ (List.mem_append_left _ (List.mem_append_right _ h)))))) hown hK hP 3 rfl rfl 1 (by decide) (hts (.fieldLink RX7 127 "PolarTypes$Typing" "types" "LPolarTypes$Types;") (List.mem_of_getElem? (i := 3) (by decide +kernel))) (fun _ h9 => h9) rfl dX7_count_44 ?_
    have hPc := hP.sub (ws' := [(tp, .inr (4, [.ref (pd 0), .ref (pd 1), .ref (pd 2), .ref (pd 3), .ref (pd 4), .ref (pd 5), .ref (pd 6), .ref (pd 7), .ref (pd 8), .ref (pd 9), .ref (pd 10), .ref (pd 11), .ref (pd 12), .ref (pd 13)])), (pd 8, .inr (0, [.ref ve, .int (nI 0)]))]) [4, 5] rfl
    have hDc := hD.sub (ws' := [(tp, .inr (4, [.ref (pd 0), .ref (pd 1), .ref (pd 2), .ref (pd 3), .ref (pd 4), .ref (pd 5), .ref (pd 6), .ref (pd 7), .ref (pd 8), .ref (pd 9), .ref (pd 10), .ref (pd 11), .ref (pd 12), .ref (pd 13)])), (pd 8, .inr (0, [.ref ve, .int (nI 0)]))]) [4, 5] (by decide) rfl
    have hFc := va_free (wc := [(tp, .inr (4, [.ref (pd 0), .ref (pd 1), .ref (pd 2), .ref (pd 3), .ref (pd 4), .ref (pd 5), .ref (pd 6), .ref (pd 7), .ref (pd 8), .ref (pd 9), .ref (pd 10), .ref (pd 11), .ref (pd 12), .ref (pd 13)])), (pd 8, .inr (0, [.ref ve, .int (nI 0)]))]) hD hS hA [4, 5] rfl
    refine va_calli (va_runV (As := []) (rest := []) ⟨hx, hb, hml, hown, hts⟩ (c_variableCount0 l dC dI cI tp pd ve H.size) (cwV 0 hts gX7_count_X4_variableCount rfl rfl rfl (by decide +kernel) ⟨Nat.le_of_ble_eq_true rfl, Nat.le_of_ble_eq_true rfl⟩) ⟨fun a U g mk q => by obtain ⟨q0, q1, qP, qK, qD⟩ := q; exact ⟨q0, q1, qP, va_K.moved (u := U) (U := U.calling g mk a) (Vm.Alike.refl U.vm) qK, qD⟩, va_recv hK hPc (ci := 4) (q0 := 0) rfl rfl, fun U hU hW => ⟨rfl, by rw [hU], by rw [hU]; exact hPc, va_K.moved hW.alike hK, hDc.weaken (fun _ _ _ _ => trivial)⟩⟩ rfl rfl hl.1 rfl (lv_room (Nat.le_of_ble_eq_true rfl)) dX7_count_47 ⟨Nat.le_of_ble_eq_true rfl, Nat.le_of_ble_eq_true rfl⟩) hS (fun q _ h => hFc q h) hFc (fun r_4 u t H1 locs ht hvm hw hB hz1 hk1 hS => ?_)
    obtain ⟨hP1, hK1, hD1⟩ := hB
    rw [ht] at hP1
    obtain ⟨hP, hD⟩ := va_join (wr := [(h0, .inr (7, [.ref tr, .ref ty, .ref wk, .ref bs])), (tr, .inr (3, [.ref (td 0), .ref (td 1), .ref (td 2), .ref (td 3), .ref (td 4), .ref (td 5)])), (td 0, .inr (0, [.ref (te 0), .int (nI 0)])), (ty, .inr (5, [.ref tr, .ref tp, .ref (yd 2), .ref (yd 3), .ref (yd 4), .ref (yd 5), .ref (yd 6), .ref (yd 7), .int 0, .int 0, .int 0, .int ((-9)), .int 0, .int ((-9)), .int ((-4))])), (wk, .inr (6, [.ref tr, .ref (wd 1), .ref (wd 2), .ref (wd 3), .ref (wd 4), .ref (wd 5), .ref (wd 6), .ref (wd 7), .ref (wd 8), .ref (wd 9), .int 0, .int 0, .int ((-9)), .int ((-9))]))]) (w1 := [(tp, .inr (4, [.ref (pd 0), .ref (pd 1), .ref (pd 2), .ref (pd 3), .ref (pd 4), .ref (pd 5), .ref (pd 6), .ref (pd 7), .ref (pd 8), .ref (pd 9), .ref (pd 10), .ref (pd 11), .ref (pd 12), .ref (pd 13)])), (pd 8, .inr (0, [.ref ve, .int (nI 0)]))]) hP hD [4, 5] [0, 1, 2, 3, 6] rfl rfl (by decide) (by decide) hk1 hFc hP1 hD1
    generalize H1 = H at hP hS ⊢
    obtain rfl : r_4 = 0 := hw
    have hP : va_P (dC, dI) vwCl [(h0, .inr (7, [.ref tr, .ref ty, .ref wk, .ref bs])), (tr, .inr (3, [.ref (td 0), .ref (td 1), .ref (td 2), .ref (td 3), .ref (td 4), .ref (td 5)])), (td 0, .inr (0, [.ref (te 0), .int (nI 0)])), (ty, .inr (5, [.ref tr, .ref tp, .ref (yd 2), .ref (yd 3), .ref (yd 4), .ref (yd 5), .ref (yd 6), .ref (yd 7), .int 0, .int 0, .int 0, .int ((-9)), .int 0, .int ((-9)), .int ((-4))])), (wk, .inr (6, [.ref tr, .ref (wd 1), .ref (wd 2), .ref (wd 3), .ref (wd 4), .ref (wd 5), .ref (wd 6), .ref (wd 7), .ref (wd 8), .ref (wd 9), .int 0, .int 0, .int ((-9)), .int ((-9))])), (tp, .inr (4, [.ref (pd 0), .ref (pd 1), .ref (pd 2), .ref (pd 3), .ref (pd 4), .ref (pd 5), .ref (pd 6), .ref (pd 7), .ref (pd 8), .ref (pd 9), .ref (pd 10), .ref (pd 11), .ref (pd 12), .ref (pd 13)])), (pd 8, .inr (0, [.ref ve, .int (nI 0)]))] H := hP
    have hD : va_D A [(h0, .inr (7, [.ref tr, .ref ty, .ref wk, .ref bs])), (tr, .inr (3, [.ref (td 0), .ref (td 1), .ref (td 2), .ref (td 3), .ref (td 4), .ref (td 5)])), (td 0, .inr (0, [.ref (te 0), .int (nI 0)])), (ty, .inr (5, [.ref tr, .ref tp, .ref (yd 2), .ref (yd 3), .ref (yd 4), .ref (yd 5), .ref (yd 6), .ref (yd 7), .int 0, .int 0, .int 0, .int ((-9)), .int 0, .int ((-9)), .int ((-4))])), (wk, .inr (6, [.ref tr, .ref (wd 1), .ref (wd 2), .ref (wd 3), .ref (wd 4), .ref (wd 5), .ref (wd 6), .ref (wd 7), .ref (wd 8), .ref (wd 9), .int 0, .int 0, .int ((-9)), .int ((-9))])), (tp, .inr (4, [.ref (pd 0), .ref (pd 1), .ref (pd 2), .ref (pd 3), .ref (pd 4), .ref (pd 5), .ref (pd 6), .ref (pd 7), .ref (pd 8), .ref (pd 9), .ref (pd 10), .ref (pd 11), .ref (pd 12), .ref (pd 13)])), (pd 8, .inr (0, [.ref ve, .int (nI 0)]))] := hD
    refine W.widen (k := 0) (n := 0) (Nat.le_of_ble_eq_true rfl) (Nat.le_of_ble_eq_true rfl) ?_
    have hP9 := hP.sub (ws' := []) [] rfl
    have hD9 := hD.sub (ws' := []) [] (by decide) rfl
    refine W.widen (k := 0) (n := 0) (Nat.le_of_ble_eq_true rfl) (Nat.le_of_ble_eq_true rfl) ?_
    exact W.iret (v := 0) hx hb hr (fun t ht hW => ⟨⟨0, (), rfl, (by simp only [p_count, if_neg c_1, if_pos c_3]), by rw [ht]; exact hP9, va_K.moved hW.alike hK, hD9⟩, hS.F ht⟩) hS.2.2 dX7_count_50
  rcases Decidable.em (w = 2) with c_5 | c_5
  · skip
    refine lv_tableIn (tgt := 51) hx hb dX7_count_1 (by rw [c_5]; decide) (by rw [c_5]; decide) (by rw [c_5]; rfl) (by decide) ?_
    refine lv_aload_n hx hb dX7_count_51 rfl (lv_at hl 0 rfl) ?_
    refine va_get (D := (dC, dI)) (ci := 7) (v := .ref tr) (C := RX7) (T := TX7) (N := 4) hx hb hts (fun w h => List.mem_cons_of_mem _ (List.mem_append_left _ (List.mem_append_left _ (List.mem_append_left _ (List.mem_append_left _ (List.mem_append_left _ (List.mem_append_right _ h))))))) hown hK hP 0 rfl rfl 0 (by decide) (hts (.fieldLink RX7 12 "PolarTypes" "tree" "LPolarTypes$Tree;") (List.mem_of_getElem? (i := 1) (by decide +kernel))) (fun _ h9 => h9) rfl dX7_count_52 ?_
    have hPc := hP.sub (ws' := [(tr, .inr (3, [.ref (td 0), .ref (td 1), .ref (td 2), .ref (td 3), .ref (td 4), .ref (td 5)])), (td 0, .inr (0, [.ref (te 0), .int (nI 0)]))]) [1, 2] rfl
    have hDc := hD.sub (ws' := [(tr, .inr (3, [.ref (td 0), .ref (td 1), .ref (td 2), .ref (td 3), .ref (td 4), .ref (td 5)])), (td 0, .inr (0, [.ref (te 0), .int (nI 0)]))]) [1, 2] (by decide) rfl
    have hFc := va_free (wc := [(tr, .inr (3, [.ref (td 0), .ref (td 1), .ref (td 2), .ref (td 3), .ref (td 4), .ref (td 5)])), (td 0, .inr (0, [.ref (te 0), .int (nI 0)]))]) hD hS hA [1, 2] rfl
    refine va_calli (va_runV (As := []) (rest := []) ⟨hx, hb, hml, hown, hts⟩ (c_freeCount0 l dC dI cI tr td (te 0) H.size) (cwV 0 hts gX7_count_X3_freeCount rfl rfl rfl (by decide +kernel) ⟨Nat.le_of_ble_eq_true rfl, Nat.le_of_ble_eq_true rfl⟩) ⟨fun a U g mk q => by obtain ⟨q0, q1, qP, qK, qD⟩ := q; exact ⟨q0, q1, qP, va_K.moved (u := U) (U := U.calling g mk a) (Vm.Alike.refl U.vm) qK, qD⟩, va_recv hK hPc (ci := 3) (q0 := 0) rfl rfl, fun U hU hW => ⟨rfl, by rw [hU], by rw [hU]; exact hPc, va_K.moved hW.alike hK, hDc.weaken (fun _ _ _ _ => trivial)⟩⟩ rfl rfl hl.1 rfl (lv_room (Nat.le_of_ble_eq_true rfl)) dX7_count_55 ⟨Nat.le_of_ble_eq_true rfl, Nat.le_of_ble_eq_true rfl⟩) hS (fun q _ h => hFc q h) hFc (fun r_6 u t H1 locs ht hvm hw hB hz1 hk1 hS => ?_)
    obtain ⟨hP1, hK1, hD1⟩ := hB
    rw [ht] at hP1
    obtain ⟨hP, hD⟩ := va_join (wr := [(h0, .inr (7, [.ref tr, .ref ty, .ref wk, .ref bs])), (ty, .inr (5, [.ref tr, .ref tp, .ref (yd 2), .ref (yd 3), .ref (yd 4), .ref (yd 5), .ref (yd 6), .ref (yd 7), .int 0, .int 0, .int 0, .int ((-9)), .int 0, .int ((-9)), .int ((-4))])), (tp, .inr (4, [.ref (pd 0), .ref (pd 1), .ref (pd 2), .ref (pd 3), .ref (pd 4), .ref (pd 5), .ref (pd 6), .ref (pd 7), .ref (pd 8), .ref (pd 9), .ref (pd 10), .ref (pd 11), .ref (pd 12), .ref (pd 13)])), (pd 8, .inr (0, [.ref ve, .int (nI 0)])), (wk, .inr (6, [.ref tr, .ref (wd 1), .ref (wd 2), .ref (wd 3), .ref (wd 4), .ref (wd 5), .ref (wd 6), .ref (wd 7), .ref (wd 8), .ref (wd 9), .int 0, .int 0, .int ((-9)), .int ((-9))]))]) (w1 := [(tr, .inr (3, [.ref (td 0), .ref (td 1), .ref (td 2), .ref (td 3), .ref (td 4), .ref (td 5)])), (td 0, .inr (0, [.ref (te 0), .int (nI 0)]))]) hP hD [1, 2] [0, 3, 4, 5, 6] rfl rfl (by decide) (by decide) hk1 hFc hP1 hD1
    generalize H1 = H at hP hS ⊢
    obtain rfl : r_6 = 0 := hw
    have hP : va_P (dC, dI) vwCl [(h0, .inr (7, [.ref tr, .ref ty, .ref wk, .ref bs])), (ty, .inr (5, [.ref tr, .ref tp, .ref (yd 2), .ref (yd 3), .ref (yd 4), .ref (yd 5), .ref (yd 6), .ref (yd 7), .int 0, .int 0, .int 0, .int ((-9)), .int 0, .int ((-9)), .int ((-4))])), (tp, .inr (4, [.ref (pd 0), .ref (pd 1), .ref (pd 2), .ref (pd 3), .ref (pd 4), .ref (pd 5), .ref (pd 6), .ref (pd 7), .ref (pd 8), .ref (pd 9), .ref (pd 10), .ref (pd 11), .ref (pd 12), .ref (pd 13)])), (pd 8, .inr (0, [.ref ve, .int (nI 0)])), (wk, .inr (6, [.ref tr, .ref (wd 1), .ref (wd 2), .ref (wd 3), .ref (wd 4), .ref (wd 5), .ref (wd 6), .ref (wd 7), .ref (wd 8), .ref (wd 9), .int 0, .int 0, .int ((-9)), .int ((-9))])), (tr, .inr (3, [.ref (td 0), .ref (td 1), .ref (td 2), .ref (td 3), .ref (td 4), .ref (td 5)])), (td 0, .inr (0, [.ref (te 0), .int (nI 0)]))] H := hP
    have hD : va_D A [(h0, .inr (7, [.ref tr, .ref ty, .ref wk, .ref bs])), (ty, .inr (5, [.ref tr, .ref tp, .ref (yd 2), .ref (yd 3), .ref (yd 4), .ref (yd 5), .ref (yd 6), .ref (yd 7), .int 0, .int 0, .int 0, .int ((-9)), .int 0, .int ((-9)), .int ((-4))])), (tp, .inr (4, [.ref (pd 0), .ref (pd 1), .ref (pd 2), .ref (pd 3), .ref (pd 4), .ref (pd 5), .ref (pd 6), .ref (pd 7), .ref (pd 8), .ref (pd 9), .ref (pd 10), .ref (pd 11), .ref (pd 12), .ref (pd 13)])), (pd 8, .inr (0, [.ref ve, .int (nI 0)])), (wk, .inr (6, [.ref tr, .ref (wd 1), .ref (wd 2), .ref (wd 3), .ref (wd 4), .ref (wd 5), .ref (wd 6), .ref (wd 7), .ref (wd 8), .ref (wd 9), .int 0, .int 0, .int ((-9)), .int ((-9))])), (tr, .inr (3, [.ref (td 0), .ref (td 1), .ref (td 2), .ref (td 3), .ref (td 4), .ref (td 5)])), (td 0, .inr (0, [.ref (te 0), .int (nI 0)]))] := hD
    refine W.widen (k := 0) (n := 0) (Nat.le_of_ble_eq_true rfl) (Nat.le_of_ble_eq_true rfl) ?_
    have hP9 := hP.sub (ws' := []) [] rfl
    have hD9 := hD.sub (ws' := []) [] (by decide) rfl
    refine W.widen (k := 0) (n := 0) (Nat.le_of_ble_eq_true rfl) (Nat.le_of_ble_eq_true rfl) ?_
    exact W.iret (v := 0) hx hb hr (fun t ht hW => ⟨⟨0, (), rfl, (by simp only [p_count, if_neg c_1, if_neg c_3, if_pos c_5]), by rw [ht]; exact hP9, va_K.moved hW.alike hK, hD9⟩, hS.F ht⟩) hS.2.2 dX7_count_58
  rcases Decidable.em (w = 3) with c_7 | c_7
  · skip
    refine lv_tableIn (tgt := 59) hx hb dX7_count_1 (by rw [c_7]; decide) (by rw [c_7]; decide) (by rw [c_7]; rfl) (by decide) ?_
    refine lv_aload_n hx hb dX7_count_59 rfl (lv_at hl 0 rfl) ?_
    refine va_get (D := (dC, dI)) (ci := 7) (v := .ref wk) (C := RX7) (T := TX7) (N := 4) hx hb hts (fun w h => List.mem_cons_of_mem _ (List.mem_append_left _ (List.mem_append_left _ (List.mem_append_left _ (List.mem_append_left _ (List.mem_append_left _ (List.mem_append_right _ h))))))) hown hK hP 0 rfl rfl 2 (by decide) (hts (.fieldLink RX7 28 "PolarTypes" "working" "LPolarTypes$Working;") (List.mem_of_getElem? (i := 4) (by decide +kernel))) (fun _ h9 => h9) rfl dX7_count_60 ?_
    refine va_get (D := (dC, dI)) (ci := 6) (v := .int ((-9))) (C := RX6) (T := TX6) (N := 14) hx hb hts (fun w h => List.mem_cons_of_mem _ (List.mem_append_left _ (List.mem_append_left _ (List.mem_append_left _ (List.mem_append_right _ h))))) hown hK hP 6 rfl rfl 13 (by decide) (hts (.fieldLink RX7 165 "PolarTypes$Working" "outcome" "I") (List.mem_of_getElem? (i := 5) (by decide +kernel))) (fun _ h9 => h9) rfl dX7_count_63 ?_
    have hP9 := hP.sub (ws' := []) [] rfl
    have hD9 := hD.sub (ws' := []) [] (by decide) rfl
    refine W.widen (k := 0) (n := 0) (Nat.le_of_ble_eq_true rfl) (Nat.le_of_ble_eq_true rfl) ?_
    exact W.iret (v := (-9)) hx hb hr (fun t ht hW => ⟨⟨(-9), (), rfl, (by simp only [p_count, if_neg c_1, if_neg c_3, if_neg c_5, if_pos c_7]), by rw [ht]; exact hP9, va_K.moved hW.alike hK, hD9⟩, hS.F ht⟩) hS.2.2 dX7_count_66
  have hout : (w).toInt < 0 ∨ 3 < (w).toInt := tb_out w 0 3 (fun z h1 h2 e => by
    rcases (show z = 0 ∨ z = 1 ∨ z = 2 ∨ z = 3 by omega) with rfl | rfl | rfl | rfl
    · exact c_1 (Int32.toInt_inj.mp (e.trans (by decide)))
    · exact c_3 (Int32.toInt_inj.mp (e.trans (by decide)))
    · exact c_5 (Int32.toInt_inj.mp (e.trans (by decide)))
    · exact c_7 (Int32.toInt_inj.mp (e.trans (by decide))))
  refine lv_tableOut (tgt := 67) hx hb dX7_count_1 hout (by decide) ?_
  refine lv_iconst (v := (-1)) hx hb dX7_count_67 (by decide) ?_
  have hP9 := hP.sub (ws' := []) [] rfl
  have hD9 := hD.sub (ws' := []) [] (by decide) rfl
  refine W.widen (k := 0) (n := 0) (Nat.le_of_ble_eq_true rfl) (Nat.le_of_ble_eq_true rfl) ?_
  exact W.iret (v := (-1)) hx hb hr (fun t ht hW => ⟨⟨(-1), (), rfl, (by simp only [p_count, if_neg c_1, if_neg c_3, if_neg c_5, if_neg c_7]), by rw [ht]; exact hP9, va_K.moved hW.alike hK, hD9⟩, hS.F ht⟩) hS.2.2 dX7_count_68

set_option maxHeartbeats 4000000 in
set_option maxRecDepth 100000 in
/-- digest, of a fresh object -/
theorem c_x_digest (l : Launch) (dC : Nat → ClassId) (dI : Nat → Nat → Nat) (cI : ClassId) (h0 : Nat) (tr : Nat) (ty : Nat) (wk : Nat) (bs : Nat) (td : Nat → Nat) (te : Nat → Nat) (tp : Nat) (yd : Nat → Nat) (pd : Nat → Nat) (ve : Nat) (sz : Nat) : Met l yX7_digest wsX7_digest ({ frames := 1, cells := 0, slots := 0, locals := 20 }) (va_Pc [.ref h0] (fun U => U.heap.size = sz ∧ va_P (dC, dI) vwCl [(h0, .inr (7, [.ref tr, .ref ty, .ref wk, .ref bs])), (tr, .inr (3, [.ref (td 0), .ref (td 1), .ref (td 2), .ref (td 3), .ref (td 4), .ref (td 5)])), (td 0, .inr (0, [.ref (te 0), .int (nI 0)])), (ty, .inr (5, [.ref tr, .ref tp, .ref (yd 2), .ref (yd 3), .ref (yd 4), .ref (yd 5), .ref (yd 6), .ref (yd 7), .int 0, .int 0, .int 0, .int ((-9)), .int 0, .int ((-9)), .int ((-4))])), (tp, .inr (4, [.ref (pd 0), .ref (pd 1), .ref (pd 2), .ref (pd 3), .ref (pd 4), .ref (pd 5), .ref (pd 6), .ref (pd 7), .ref (pd 8), .ref (pd 9), .ref (pd 10), .ref (pd 11), .ref (pd 12), .ref (pd 13)])), (pd 8, .inr (0, [.ref ve, .int (nI 0)]))] U.heap ∧ va_K (dC, dI) vwCl [(cI, .int)] U ∧ va_D (fun _ => True) [(h0, .inr (7, [.ref tr, .ref ty, .ref wk, .ref bs])), (tr, .inr (3, [.ref (td 0), .ref (td 1), .ref (td 2), .ref (td 3), .ref (td 4), .ref (td 5)])), (td 0, .inr (0, [.ref (te 0), .int (nI 0)])), (ty, .inr (5, [.ref tr, .ref tp, .ref (yd 2), .ref (yd 3), .ref (yd 4), .ref (yd 5), .ref (yd 6), .ref (yd 7), .int 0, .int 0, .int 0, .int ((-9)), .int 0, .int ((-9)), .int ((-4))])), (tp, .inr (4, [.ref (pd 0), .ref (pd 1), .ref (pd 2), .ref (pd 3), .ref (pd 4), .ref (pd 5), .ref (pd 6), .ref (pd 7), .ref (pd 8), .ref (pd 9), .ref (pd 10), .ref (pd 11), .ref (pd 12), .ref (pd 13)])), (pd 8, .inr (0, [.ref ve, .int (nI 0)]))])) (va_Ql (fun (r : Int64) (_ : Unit) => r = 17) (fun (_ : Unit) (t : State) => va_P (dC, dI) vwCl [] t.heap ∧ va_K (dC, dI) vwCl [(cI, .int)] t ∧ va_D (va_A [(h0, .inr (7, [.ref tr, .ref ty, .ref wk, .ref bs])), (tr, .inr (3, [.ref (td 0), .ref (td 1), .ref (td 2), .ref (td 3), .ref (td 4), .ref (td 5)])), (td 0, .inr (0, [.ref (te 0), .int (nI 0)])), (ty, .inr (5, [.ref tr, .ref tp, .ref (yd 2), .ref (yd 3), .ref (yd 4), .ref (yd 5), .ref (yd 6), .ref (yd 7), .int 0, .int 0, .int 0, .int ((-9)), .int 0, .int ((-9)), .int ((-4))])), (tp, .inr (4, [.ref (pd 0), .ref (pd 1), .ref (pd 2), .ref (pd 3), .ref (pd 4), .ref (pd 5), .ref (pd 6), .ref (pd 7), .ref (pd 8), .ref (pd 9), .ref (pd 10), .ref (pd 11), .ref (pd 12), .ref (pd 13)])), (pd 8, .inr (0, [.ref ve, .int (nI 0)]))] sz) []) (va_A [(h0, .inr (7, [.ref tr, .ref ty, .ref wk, .ref bs])), (tr, .inr (3, [.ref (td 0), .ref (td 1), .ref (td 2), .ref (td 3), .ref (td 4), .ref (td 5)])), (td 0, .inr (0, [.ref (te 0), .int (nI 0)])), (ty, .inr (5, [.ref tr, .ref tp, .ref (yd 2), .ref (yd 3), .ref (yd 4), .ref (yd 5), .ref (yd 6), .ref (yd 7), .int 0, .int 0, .int 0, .int ((-9)), .int 0, .int ((-9)), .int ((-4))])), (tp, .inr (4, [.ref (pd 0), .ref (pd 1), .ref (pd 2), .ref (pd 3), .ref (pd 4), .ref (pd 5), .ref (pd 6), .ref (pd 7), .ref (pd 8), .ref (pd 9), .ref (pd 10), .ref (pd 11), .ref (pd 12), .ref (pd 13)])), (pd 8, .inr (0, [.ref ve, .int (nI 0)]))] sz)) 0 0 (va_A [(h0, .inr (7, [.ref tr, .ref ty, .ref wk, .ref bs])), (tr, .inr (3, [.ref (td 0), .ref (td 1), .ref (td 2), .ref (td 3), .ref (td 4), .ref (td 5)])), (td 0, .inr (0, [.ref (te 0), .int (nI 0)])), (ty, .inr (5, [.ref tr, .ref tp, .ref (yd 2), .ref (yd 3), .ref (yd 4), .ref (yd 5), .ref (yd 6), .ref (yd 7), .int 0, .int 0, .int 0, .int ((-9)), .int 0, .int ((-9)), .int ((-4))])), (tp, .inr (4, [.ref (pd 0), .ref (pd 1), .ref (pd 2), .ref (pd 3), .ref (pd 4), .ref (pd 5), .ref (pd 6), .ref (pd 7), .ref (pd 8), .ref (pd 9), .ref (pd 10), .ref (pd 11), .ref (pd 12), .ref (pd 13)])), (pd 8, .inr (0, [.ref ve, .int (nI 0)]))] sz) := by
  refine Met.ofW (cc := cX7_digest) (maxL := 7) (ret := (some .long)) (by decide) rfl ?_
  intro p e s m args below meth c s₁ B hml hv
  obtain ⟨rfl, hsz, hP, hK, hD0⟩ := hv
  have hx := B.exec
  have hb := B.bytes
  have hr := B.returns
  have hts := atoms_spec (ws := wsX7_digest) B.pre
  have hown : s.vm.findClass RX7 = some m.cls := findClass_of_methodNamed B.named
  have hlocks := B.notSynchronized
  subst hsz
  have hD := hD0.self (sz := s.heap.size)
  generalize hAe : va_A [(h0, .inr (7, [.ref tr, .ref ty, .ref wk, .ref bs])), (tr, .inr (3, [.ref (td 0), .ref (td 1), .ref (td 2), .ref (td 3), .ref (td 4), .ref (td 5)])), (td 0, .inr (0, [.ref (te 0), .int (nI 0)])), (ty, .inr (5, [.ref tr, .ref tp, .ref (yd 2), .ref (yd 3), .ref (yd 4), .ref (yd 5), .ref (yd 6), .ref (yd 7), .int 0, .int 0, .int 0, .int ((-9)), .int 0, .int ((-9)), .int ((-4))])), (tp, .inr (4, [.ref (pd 0), .ref (pd 1), .ref (pd 2), .ref (pd 3), .ref (pd 4), .ref (pd 5), .ref (pd 6), .ref (pd 7), .ref (pd 8), .ref (pd 9), .ref (pd 10), .ref (pd 11), .ref (pd 12), .ref (pd 13)])), (pd 8, .inr (0, [.ref ve, .int (nI 0)]))] s.heap.size = A at hD ⊢
  have hA : ∀ q : Nat, s.heap.size ≤ q → A q := fun q h => by rw [← hAe]; exact Or.inr h
  have hS : va_S A s.heap s.heap [] := va_S.rf
  have hP : va_P (dC, dI) vwCl [(h0, .inr (7, [.ref tr, .ref ty, .ref wk, .ref bs])), (tr, .inr (3, [.ref (td 0), .ref (td 1), .ref (td 2), .ref (td 3), .ref (td 4), .ref (td 5)])), (td 0, .inr (0, [.ref (te 0), .int (nI 0)])), (ty, .inr (5, [.ref tr, .ref tp, .ref (yd 2), .ref (yd 3), .ref (yd 4), .ref (yd 5), .ref (yd 6), .ref (yd 7), .int 0, .int 0, .int 0, .int ((-9)), .int 0, .int ((-9)), .int ((-4))])), (tp, .inr (4, [.ref (pd 0), .ref (pd 1), .ref (pd 2), .ref (pd 3), .ref (pd 4), .ref (pd 5), .ref (pd 6), .ref (pd 7), .ref (pd 8), .ref (pd 9), .ref (pd 10), .ref (pd 11), .ref (pd 12), .ref (pd 13)])), (pd 8, .inr (0, [.ref ve, .int (nI 0)]))] s.heap := hP
  have hl := lv_entry ([.ref h0]) (n := 7) (Nat.le_of_ble_eq_true rfl)
  rw [lg_entry_eq]
  generalize (lg_sl ([.ref h0]) ++ List.replicate (7 - (lg_sl ([.ref h0])).length) Slot.unset).toArray = ls at hl ⊢
  have hl : lv_has ls 7 [(0, .ref h0)] := hl
  obtain ⟨H, hHe⟩ : ∃ H : Heap, H = s.heap := ⟨_, rfl⟩
  rw [← hHe] at hP ⊢
  have hS : va_S A s.heap H [] := by rw [hHe]; exact va_S.rf
  refine lv_ldc2 (v := 17) hx hb hown (hts (.constantLong RX7 180 (17)) (List.mem_of_getElem? (i := 1) (by decide +kernel))) dX7_digest_0 ?_
  refine lv_lstore_n (lv' := [(1, .long 17), (0, .ref h0)]) hx hb dX7_digest_3 rfl hl (by decide) rfl (fun ls hl => ?_)
  refine lv_aload_n hx hb dX7_digest_4 rfl (lv_at hl 1 rfl) ?_
  refine va_get (D := (dC, dI)) (ci := 7) (v := .ref tr) (C := RX7) (T := TX7) (N := 4) hx hb hts (fun w h => List.mem_cons_of_mem _ (List.mem_append_left _ (List.mem_append_left _ (List.mem_append_left _ (List.mem_append_left _ (List.mem_append_right _ h)))))) hown hK hP 0 rfl rfl 0 (by decide) (hts (.fieldLink RX7 12 "PolarTypes" "tree" "LPolarTypes$Tree;") (List.mem_of_getElem? (i := 2) (by decide +kernel))) (fun _ h9 => h9) rfl dX7_digest_5 ?_
  have hPc := hP.sub (ws' := [(tr, .inr (3, [.ref (td 0), .ref (td 1), .ref (td 2), .ref (td 3), .ref (td 4), .ref (td 5)])), (td 0, .inr (0, [.ref (te 0), .int (nI 0)]))]) [1, 2] rfl
  have hDc := hD.sub (ws' := [(tr, .inr (3, [.ref (td 0), .ref (td 1), .ref (td 2), .ref (td 3), .ref (td 4), .ref (td 5)])), (td 0, .inr (0, [.ref (te 0), .int (nI 0)]))]) [1, 2] (by decide) rfl
  have hFc := va_free (wc := [(tr, .inr (3, [.ref (td 0), .ref (td 1), .ref (td 2), .ref (td 3), .ref (td 4), .ref (td 5)])), (td 0, .inr (0, [.ref (te 0), .int (nI 0)]))]) hD hS hA [1, 2] rfl
  refine va_calli (va_runV (As := []) (rest := []) ⟨hx, hb, hml, hown, hts⟩ (c_size0 l dC dI cI tr td (te 0) H.size) (cwV 0 hts gX7_digest_X3_size rfl rfl rfl (by decide +kernel) ⟨Nat.le_of_ble_eq_true rfl, Nat.le_of_ble_eq_true rfl⟩) ⟨fun a U g mk q => by obtain ⟨q0, q1, qP, qK, qD⟩ := q; exact ⟨q0, q1, qP, va_K.moved (u := U) (U := U.calling g mk a) (Vm.Alike.refl U.vm) qK, qD⟩, va_recv hK hPc (ci := 3) (q0 := 0) rfl rfl, fun U hU hW => ⟨rfl, by rw [hU], by rw [hU]; exact hPc, va_K.moved hW.alike hK, hDc.weaken (fun _ _ _ _ => trivial)⟩⟩ rfl rfl hl.1 rfl (lv_room (Nat.le_of_ble_eq_true rfl)) dX7_digest_8 ⟨Nat.le_of_ble_eq_true rfl, Nat.le_of_ble_eq_true rfl⟩) hS (fun q _ h => hFc q h) hFc (fun r_1 u t H1 locs ht hvm hw hB hz1 hk1 hS => ?_)
  obtain ⟨hP1, hK1, hD1⟩ := hB
  rw [ht] at hP1
  obtain ⟨hP, hD⟩ := va_join (wr := [(h0, .inr (7, [.ref tr, .ref ty, .ref wk, .ref bs])), (ty, .inr (5, [.ref tr, .ref tp, .ref (yd 2), .ref (yd 3), .ref (yd 4), .ref (yd 5), .ref (yd 6), .ref (yd 7), .int 0, .int 0, .int 0, .int ((-9)), .int 0, .int ((-9)), .int ((-4))])), (tp, .inr (4, [.ref (pd 0), .ref (pd 1), .ref (pd 2), .ref (pd 3), .ref (pd 4), .ref (pd 5), .ref (pd 6), .ref (pd 7), .ref (pd 8), .ref (pd 9), .ref (pd 10), .ref (pd 11), .ref (pd 12), .ref (pd 13)])), (pd 8, .inr (0, [.ref ve, .int (nI 0)]))]) (w1 := [(tr, .inr (3, [.ref (td 0), .ref (td 1), .ref (td 2), .ref (td 3), .ref (td 4), .ref (td 5)])), (td 0, .inr (0, [.ref (te 0), .int (nI 0)]))]) hP hD [1, 2] [0, 3, 4, 5] rfl rfl (by decide) (by decide) hk1 hFc hP1 hD1
  generalize H1 = H at hP hS ⊢
  obtain rfl : r_1 = 0 := hw
  have hP : va_P (dC, dI) vwCl [(h0, .inr (7, [.ref tr, .ref ty, .ref wk, .ref bs])), (ty, .inr (5, [.ref tr, .ref tp, .ref (yd 2), .ref (yd 3), .ref (yd 4), .ref (yd 5), .ref (yd 6), .ref (yd 7), .int 0, .int 0, .int 0, .int ((-9)), .int 0, .int ((-9)), .int ((-4))])), (tp, .inr (4, [.ref (pd 0), .ref (pd 1), .ref (pd 2), .ref (pd 3), .ref (pd 4), .ref (pd 5), .ref (pd 6), .ref (pd 7), .ref (pd 8), .ref (pd 9), .ref (pd 10), .ref (pd 11), .ref (pd 12), .ref (pd 13)])), (pd 8, .inr (0, [.ref ve, .int (nI 0)])), (tr, .inr (3, [.ref (td 0), .ref (td 1), .ref (td 2), .ref (td 3), .ref (td 4), .ref (td 5)])), (td 0, .inr (0, [.ref (te 0), .int (nI 0)]))] H := hP
  have hD : va_D A [(h0, .inr (7, [.ref tr, .ref ty, .ref wk, .ref bs])), (ty, .inr (5, [.ref tr, .ref tp, .ref (yd 2), .ref (yd 3), .ref (yd 4), .ref (yd 5), .ref (yd 6), .ref (yd 7), .int 0, .int 0, .int 0, .int ((-9)), .int 0, .int ((-9)), .int ((-4))])), (tp, .inr (4, [.ref (pd 0), .ref (pd 1), .ref (pd 2), .ref (pd 3), .ref (pd 4), .ref (pd 5), .ref (pd 6), .ref (pd 7), .ref (pd 8), .ref (pd 9), .ref (pd 10), .ref (pd 11), .ref (pd 12), .ref (pd 13)])), (pd 8, .inr (0, [.ref ve, .int (nI 0)])), (tr, .inr (3, [.ref (td 0), .ref (td 1), .ref (td 2), .ref (td 3), .ref (td 4), .ref (td 5)])), (td 0, .inr (0, [.ref (te 0), .int (nI 0)]))] := hD
  refine W.widen (k := 0) (n := 0) (Nat.le_of_ble_eq_true rfl) (Nat.le_of_ble_eq_true rfl) ?_
  refine lv_istore_n (lv' := [(3, .int 0), (1, .long 17), (0, .ref h0)]) hx hb dX7_digest_11 rfl hl (by decide) rfl (fun ls hl => ?_)
  refine lv_iconst (v := 0) hx hb dX7_digest_12 (by decide) ?_
  refine lv_istore (lv' := [(4, .int 0), (3, .int 0), (1, .long 17), (0, .ref h0)]) hx hb dX7_digest_13 hl (by decide) rfl (fun ls hl => ?_)
  refine lv_iload hx hb dX7_digest_15 (lv_at hl 0 rfl) ?_
  refine lv_iload_n hx hb dX7_digest_17 rfl (lv_at hl 1 rfl) ?_
  refine lv_icmp_ge (tgt := 59) hx hb dX7_digest_18 (by decide) (fun c_2 => ?_) (fun c_2 => absurd (by decide) c_2)
  refine lv_aload_n hx hb dX7_digest_59 rfl (lv_at hl 3 rfl) ?_
  refine va_get (D := (dC, dI)) (ci := 7) (v := .ref ty) (C := RX7) (T := TX7) (N := 4) hx hb hts (fun w h => List.mem_cons_of_mem _ (List.mem_append_left _ (List.mem_append_left _ (List.mem_append_left _ (List.mem_append_left _ (List.mem_append_right _ h)))))) hown hK hP 0 rfl rfl 1 (by decide) (hts (.fieldLink RX7 21 "PolarTypes" "typing" "LPolarTypes$Typing;") (List.mem_of_getElem? (i := 4) (by decide +kernel))) (fun _ h9 => h9) rfl dX7_digest_60 ?_
  refine va_get (D := (dC, dI)) (ci := 5) (v := .ref tp) (C := RX5) (T := TX5) (N := 15) hx hb hts (fun w h => List.mem_cons_of_mem _ (List.mem_append_left _ (List.mem_append_left _ (List.mem_append_left _ (List.mem_append_right _ h))))) hown hK hP 1 rfl rfl 1 (by decide) (hts (.fieldLink RX7 127 "PolarTypes$Typing" "types" "LPolarTypes$Types;") (List.mem_of_getElem? (i := 5) (by decide +kernel))) (fun _ h9 => h9) rfl dX7_digest_63 ?_
  have hPc := hP.sub (ws' := [(tp, .inr (4, [.ref (pd 0), .ref (pd 1), .ref (pd 2), .ref (pd 3), .ref (pd 4), .ref (pd 5), .ref (pd 6), .ref (pd 7), .ref (pd 8), .ref (pd 9), .ref (pd 10), .ref (pd 11), .ref (pd 12), .ref (pd 13)])), (pd 8, .inr (0, [.ref ve, .int (nI 0)]))]) [2, 3] rfl
  have hDc := hD.sub (ws' := [(tp, .inr (4, [.ref (pd 0), .ref (pd 1), .ref (pd 2), .ref (pd 3), .ref (pd 4), .ref (pd 5), .ref (pd 6), .ref (pd 7), .ref (pd 8), .ref (pd 9), .ref (pd 10), .ref (pd 11), .ref (pd 12), .ref (pd 13)])), (pd 8, .inr (0, [.ref ve, .int (nI 0)]))]) [2, 3] (by decide) rfl
  have hFc := va_free (wc := [(tp, .inr (4, [.ref (pd 0), .ref (pd 1), .ref (pd 2), .ref (pd 3), .ref (pd 4), .ref (pd 5), .ref (pd 6), .ref (pd 7), .ref (pd 8), .ref (pd 9), .ref (pd 10), .ref (pd 11), .ref (pd 12), .ref (pd 13)])), (pd 8, .inr (0, [.ref ve, .int (nI 0)]))]) hD hS hA [2, 3] rfl
  refine va_calli (va_runV (As := []) (rest := []) ⟨hx, hb, hml, hown, hts⟩ (c_variableCount0 l dC dI cI tp pd ve H.size) (cwV 0 hts gX7_digest_X4_variableCount rfl rfl rfl (by decide +kernel) ⟨Nat.le_of_ble_eq_true rfl, Nat.le_of_ble_eq_true rfl⟩) ⟨fun a U g mk q => by obtain ⟨q0, q1, qP, qK, qD⟩ := q; exact ⟨q0, q1, qP, va_K.moved (u := U) (U := U.calling g mk a) (Vm.Alike.refl U.vm) qK, qD⟩, va_recv hK hPc (ci := 4) (q0 := 0) rfl rfl, fun U hU hW => ⟨rfl, by rw [hU], by rw [hU]; exact hPc, va_K.moved hW.alike hK, hDc.weaken (fun _ _ _ _ => trivial)⟩⟩ rfl rfl hl.1 rfl (lv_room (Nat.le_of_ble_eq_true rfl)) dX7_digest_66 ⟨Nat.le_of_ble_eq_true rfl, Nat.le_of_ble_eq_true rfl⟩) hS (fun q _ h => hFc q h) hFc (fun r_3 u t H1 locs ht hvm hw hB hz1 hk1 hS => ?_)
  obtain ⟨hP1, hK1, hD1⟩ := hB
  rw [ht] at hP1
  obtain ⟨hP, hD⟩ := va_join (wr := [(h0, .inr (7, [.ref tr, .ref ty, .ref wk, .ref bs])), (ty, .inr (5, [.ref tr, .ref tp, .ref (yd 2), .ref (yd 3), .ref (yd 4), .ref (yd 5), .ref (yd 6), .ref (yd 7), .int 0, .int 0, .int 0, .int ((-9)), .int 0, .int ((-9)), .int ((-4))])), (tr, .inr (3, [.ref (td 0), .ref (td 1), .ref (td 2), .ref (td 3), .ref (td 4), .ref (td 5)])), (td 0, .inr (0, [.ref (te 0), .int (nI 0)]))]) (w1 := [(tp, .inr (4, [.ref (pd 0), .ref (pd 1), .ref (pd 2), .ref (pd 3), .ref (pd 4), .ref (pd 5), .ref (pd 6), .ref (pd 7), .ref (pd 8), .ref (pd 9), .ref (pd 10), .ref (pd 11), .ref (pd 12), .ref (pd 13)])), (pd 8, .inr (0, [.ref ve, .int (nI 0)]))]) hP hD [2, 3] [0, 1, 4, 5] rfl rfl (by decide) (by decide) hk1 hFc hP1 hD1
  generalize H1 = H at hP hS ⊢
  obtain rfl : r_3 = 0 := hw
  have hP : va_P (dC, dI) vwCl [(h0, .inr (7, [.ref tr, .ref ty, .ref wk, .ref bs])), (ty, .inr (5, [.ref tr, .ref tp, .ref (yd 2), .ref (yd 3), .ref (yd 4), .ref (yd 5), .ref (yd 6), .ref (yd 7), .int 0, .int 0, .int 0, .int ((-9)), .int 0, .int ((-9)), .int ((-4))])), (tr, .inr (3, [.ref (td 0), .ref (td 1), .ref (td 2), .ref (td 3), .ref (td 4), .ref (td 5)])), (td 0, .inr (0, [.ref (te 0), .int (nI 0)])), (tp, .inr (4, [.ref (pd 0), .ref (pd 1), .ref (pd 2), .ref (pd 3), .ref (pd 4), .ref (pd 5), .ref (pd 6), .ref (pd 7), .ref (pd 8), .ref (pd 9), .ref (pd 10), .ref (pd 11), .ref (pd 12), .ref (pd 13)])), (pd 8, .inr (0, [.ref ve, .int (nI 0)]))] H := hP
  have hD : va_D A [(h0, .inr (7, [.ref tr, .ref ty, .ref wk, .ref bs])), (ty, .inr (5, [.ref tr, .ref tp, .ref (yd 2), .ref (yd 3), .ref (yd 4), .ref (yd 5), .ref (yd 6), .ref (yd 7), .int 0, .int 0, .int 0, .int ((-9)), .int 0, .int ((-9)), .int ((-4))])), (tr, .inr (3, [.ref (td 0), .ref (td 1), .ref (td 2), .ref (td 3), .ref (td 4), .ref (td 5)])), (td 0, .inr (0, [.ref (te 0), .int (nI 0)])), (tp, .inr (4, [.ref (pd 0), .ref (pd 1), .ref (pd 2), .ref (pd 3), .ref (pd 4), .ref (pd 5), .ref (pd 6), .ref (pd 7), .ref (pd 8), .ref (pd 9), .ref (pd 10), .ref (pd 11), .ref (pd 12), .ref (pd 13)])), (pd 8, .inr (0, [.ref ve, .int (nI 0)]))] := hD
  refine W.widen (k := 0) (n := 0) (Nat.le_of_ble_eq_true rfl) (Nat.le_of_ble_eq_true rfl) ?_
  refine lv_istore (lv' := [(4, .int 0), (3, .int 0), (1, .long 17), (0, .ref h0)]) hx hb dX7_digest_69 hl (by decide) rfl (fun ls hl => ?_)
  refine lv_iconst (v := 0) hx hb dX7_digest_71 (by decide) ?_
  refine lv_istore (lv' := [(5, .int 0), (4, .int 0), (3, .int 0), (1, .long 17), (0, .ref h0)]) hx hb dX7_digest_72 hl (by decide) rfl (fun ls hl => ?_)
  refine lv_iload hx hb dX7_digest_74 (lv_at hl 0 rfl) ?_
  refine lv_iload hx hb dX7_digest_76 (lv_at hl 1 rfl) ?_
  refine lv_icmp_ge (tgt := 118) hx hb dX7_digest_78 (by decide) (fun c_4 => ?_) (fun c_4 => absurd (by decide) c_4)
  refine lv_lload_n hx hb dX7_digest_118 rfl (lv_at hl 3 rfl) ?_
  have hP9 := hP.sub (ws' := []) [] rfl
  have hD9 := hD.sub (ws' := []) [] (by decide) rfl
  refine W.widen (k := 0) (n := 0) (Nat.le_of_ble_eq_true rfl) (Nat.le_of_ble_eq_true rfl) ?_
  exact W.lret (v := 17) hx hb hr (fun t ht hW => ⟨⟨17, (), rfl, rfl, by rw [ht]; exact hP9, va_K.moved hW.alike hK, hD9⟩, hS.F ht⟩) hS.2.2 dX7_digest_119

