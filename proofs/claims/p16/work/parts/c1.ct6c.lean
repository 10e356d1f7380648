theorem dX2_goOn_0 : decode cX2_goOn 0 = .ok (.aload_n 0, 1) := by decide +kernel
theorem dX2_goOn_1 : decode cX2_goOn 1 = .ok (.getfield 12, 3) := by decide +kernel
theorem dX2_goOn_4 : decode cX2_goOn 4 = .ok (.getfield 51, 3) := by decide +kernel
theorem dX2_goOn_7 : decode cX2_goOn 7 = .ok (.iconst 1, 1) := by decide +kernel
theorem dX2_goOn_8 : decode cX2_goOn 8 = .ok (.isub, 1) := by decide +kernel
theorem dX2_goOn_9 : decode cX2_goOn 9 = .ok (.istore_n 1, 1) := by decide +kernel
theorem dX2_goOn_10 : decode cX2_goOn 10 = .ok (.aload_n 0, 1) := by decide +kernel
theorem dX2_goOn_11 : decode cX2_goOn 11 = .ok (.getfield 12, 3) := by decide +kernel
theorem dX2_goOn_14 : decode cX2_goOn 14 = .ok (.iload_n 1, 1) := by decide +kernel
theorem dX2_goOn_15 : decode cX2_goOn 15 = .ok (.invokevirtual 80, 3) := by decide +kernel
theorem dX2_goOn_18 : decode cX2_goOn 18 = .ok (.istore_n 2, 1) := by decide +kernel
theorem dX2_goOn_19 : decode cX2_goOn 19 = .ok (.aload_n 0, 1) := by decide +kernel
theorem dX2_goOn_20 : decode cX2_goOn 20 = .ok (.getfield 18, 3) := by decide +kernel
theorem dX2_goOn_23 : decode cX2_goOn 23 = .ok (.iload_n 1, 1) := by decide +kernel
theorem dX2_goOn_24 : decode cX2_goOn 24 = .ok (.invokevirtual 80, 3) := by decide +kernel
theorem dX2_goOn_27 : decode cX2_goOn 27 = .ok (.istore_n 3, 1) := by decide +kernel
theorem dX2_goOn_28 : decode cX2_goOn 28 = .ok (.aload_n 0, 1) := by decide +kernel
theorem dX2_goOn_29 : decode cX2_goOn 29 = .ok (.getfield 21, 3) := by decide +kernel
theorem dX2_goOn_32 : decode cX2_goOn 32 = .ok (.iload_n 1, 1) := by decide +kernel
theorem dX2_goOn_33 : decode cX2_goOn 33 = .ok (.invokevirtual 80, 3) := by decide +kernel
theorem dX2_goOn_36 : decode cX2_goOn 36 = .ok (.istore 4, 2) := by decide +kernel
theorem dX2_goOn_38 : decode cX2_goOn 38 = .ok (.aload_n 0, 1) := by decide +kernel
theorem dX2_goOn_39 : decode cX2_goOn 39 = .ok (.getfield 39, 3) := by decide +kernel
theorem dX2_goOn_42 : decode cX2_goOn 42 = .ok (.iload_n 2, 1) := by decide +kernel
theorem dX2_goOn_43 : decode cX2_goOn 43 = .ok (.invokevirtual 65, 3) := by decide +kernel
theorem dX2_goOn_46 : decode cX2_goOn 46 = .ok (.istore 5, 2) := by decide +kernel
theorem dX2_goOn_48 : decode cX2_goOn 48 = .ok (.aload_n 0, 1) := by decide +kernel
theorem dX2_goOn_49 : decode cX2_goOn 49 = .ok (.getfield 21, 3) := by decide +kernel
theorem dX2_goOn_52 : decode cX2_goOn 52 = .ok (.iload_n 1, 1) := by decide +kernel
theorem dX2_goOn_53 : decode cX2_goOn 53 = .ok (.iload 4, 2) := by decide +kernel
theorem dX2_goOn_55 : decode cX2_goOn 55 = .ok (.iconst 1, 1) := by decide +kernel
theorem dX2_goOn_56 : decode cX2_goOn 56 = .ok (.iadd, 1) := by decide +kernel
theorem dX2_goOn_57 : decode cX2_goOn 57 = .ok (.invokevirtual 86, 3) := by decide +kernel
theorem dX2_goOn_60 : decode cX2_goOn 60 = .ok (.iload 5, 2) := by decide +kernel
theorem dX2_goOn_62 : decode cX2_goOn 62 = .ok (.iconst 2, 1) := by decide +kernel
theorem dX2_goOn_63 : decode cX2_goOn 63 = .ok (.if_icmp .ne 32, 3) := by decide +kernel
theorem dX2_goOn_95 : decode cX2_goOn 95 = .ok (.iload 5, 2) := by decide +kernel
theorem dX2_goOn_97 : decode cX2_goOn 97 = .ok (.iconst 2, 1) := by decide +kernel
theorem dX2_goOn_98 : decode cX2_goOn 98 = .ok (.if_icmp .ne 25, 3) := by decide +kernel
theorem dX2_goOn_123 : decode cX2_goOn 123 = .ok (.iload 5, 2) := by decide +kernel
theorem dX2_goOn_125 : decode cX2_goOn 125 = .ok (.iconst 3, 1) := by decide +kernel
theorem dX2_goOn_126 : decode cX2_goOn 126 = .ok (.if_icmp .ne 51, 3) := by decide +kernel
theorem dX2_goOn_177 : decode cX2_goOn 177 = .ok (.iload 5, 2) := by decide +kernel
theorem dX2_goOn_179 : decode cX2_goOn 179 = .ok (.iconst 4, 1) := by decide +kernel
theorem dX2_goOn_180 : decode cX2_goOn 180 = .ok (.if_icmp .ne 42, 3) := by decide +kernel
theorem dX2_goOn_222 : decode cX2_goOn 222 = .ok (.iload 5, 2) := by decide +kernel
theorem dX2_goOn_224 : decode cX2_goOn 224 = .ok (.iconst 3, 1) := by decide +kernel
theorem dX2_goOn_225 : decode cX2_goOn 225 = .ok (.if_icmp .ne 12, 3) := by decide +kernel
theorem dX2_goOn_237 : decode cX2_goOn 237 = .ok (.iload 5, 2) := by decide +kernel
theorem dX2_goOn_239 : decode cX2_goOn 239 = .ok (.iconst 4, 1) := by decide +kernel
theorem dX2_goOn_240 : decode cX2_goOn 240 = .ok (.if_icmp .ne 12, 3) := by decide +kernel
theorem dX2_goOn_252 : decode cX2_goOn 252 = .ok (.aload_n 0, 1) := by decide +kernel
theorem dX2_goOn_253 : decode cX2_goOn 253 = .ok (.invokevirtual 59, 3) := by decide +kernel
theorem dX2_goOn_256 : decode cX2_goOn 256 = .ok (.return_, 1) := by decide +kernel
theorem dX2_goOn_183 : decode cX2_goOn 183 = .ok (.iload 4, 2) := by decide +kernel
theorem dX2_goOn_185 : decode cX2_goOn 185 = .ok (.aload_n 0, 1) := by decide +kernel
theorem dX2_goOn_186 : decode cX2_goOn 186 = .ok (.getfield 39, 3) := by decide +kernel
theorem dX2_goOn_189 : decode cX2_goOn 189 = .ok (.iload_n 2, 1) := by decide +kernel
theorem dX2_goOn_190 : decode cX2_goOn 190 = .ok (.iload_n 3, 1) := by decide +kernel
theorem dX2_goOn_191 : decode cX2_goOn 191 = .ok (.invokevirtual 76, 3) := by decide +kernel
theorem dX2_goOn_194 : decode cX2_goOn 194 = .ok (.getfield 51, 3) := by decide +kernel
theorem dX2_goOn_197 : decode cX2_goOn 197 = .ok (.if_icmp .ge 25, 3) := by decide +kernel
theorem dX2_goOn_243 : decode cX2_goOn 243 = .ok (.aload_n 0, 1) := by decide +kernel
theorem dX2_goOn_244 : decode cX2_goOn 244 = .ok (.getfield 35, 3) := by decide +kernel
theorem dX2_goOn_247 : decode cX2_goOn 247 = .ok (.bipush 46, 2) := by decide +kernel
theorem dX2_goOn_249 : decode cX2_goOn 249 = .ok (.invokevirtual 69, 3) := by decide +kernel
theorem dX2_goOn_200 : decode cX2_goOn 200 = .ok (.aload_n 0, 1) := by decide +kernel
theorem dX2_goOn_201 : decode cX2_goOn 201 = .ok (.aload_n 0, 1) := by decide +kernel
theorem dX2_goOn_202 : decode cX2_goOn 202 = .ok (.getfield 39, 3) := by decide +kernel
theorem dX2_goOn_205 : decode cX2_goOn 205 = .ok (.iload_n 2, 1) := by decide +kernel
theorem dX2_goOn_206 : decode cX2_goOn 206 = .ok (.iload_n 3, 1) := by decide +kernel
theorem dX2_goOn_207 : decode cX2_goOn 207 = .ok (.invokevirtual 76, 3) := by decide +kernel
theorem dX2_goOn_210 : decode cX2_goOn 210 = .ok (.iload 4, 2) := by decide +kernel
theorem dX2_goOn_212 : decode cX2_goOn 212 = .ok (.invokevirtual 80, 3) := by decide +kernel
theorem dX2_goOn_215 : decode cX2_goOn 215 = .ok (.iload_n 3, 1) := by decide +kernel
theorem dX2_goOn_216 : decode cX2_goOn 216 = .ok (.invokevirtual 46, 3) := by decide +kernel
theorem dX2_goOn_219 : decode cX2_goOn 219 = .ok (.goto 37, 3) := by decide +kernel
theorem dX2_goOn_129 : decode cX2_goOn 129 = .ok (.iload 4, 2) := by decide +kernel
theorem dX2_goOn_131 : decode cX2_goOn 131 = .ok (.aload_n 0, 1) := by decide +kernel
theorem dX2_goOn_132 : decode cX2_goOn 132 = .ok (.getfield 39, 3) := by decide +kernel
theorem dX2_goOn_135 : decode cX2_goOn 135 = .ok (.iload_n 2, 1) := by decide +kernel
theorem dX2_goOn_136 : decode cX2_goOn 136 = .ok (.invokevirtual 101, 3) := by decide +kernel
theorem dX2_goOn_139 : decode cX2_goOn 139 = .ok (.if_icmp .ge 38, 3) := by decide +kernel
theorem dX2_goOn_228 : decode cX2_goOn 228 = .ok (.aload_n 0, 1) := by decide +kernel
theorem dX2_goOn_229 : decode cX2_goOn 229 = .ok (.getfield 35, 3) := by decide +kernel
theorem dX2_goOn_232 : decode cX2_goOn 232 = .ok (.bipush 125, 2) := by decide +kernel
theorem dX2_goOn_234 : decode cX2_goOn 234 = .ok (.invokevirtual 69, 3) := by decide +kernel
theorem dX2_goOn_142 : decode cX2_goOn 142 = .ok (.aload_n 0, 1) := by decide +kernel
theorem dX2_goOn_143 : decode cX2_goOn 143 = .ok (.getfield 35, 3) := by decide +kernel
theorem dX2_goOn_146 : decode cX2_goOn 146 = .ok (.aload_n 0, 1) := by decide +kernel
theorem dX2_goOn_147 : decode cX2_goOn 147 = .ok (.getfield 39, 3) := by decide +kernel
theorem dX2_goOn_150 : decode cX2_goOn 150 = .ok (.iload_n 2, 1) := by decide +kernel
theorem dX2_goOn_151 : decode cX2_goOn 151 = .ok (.iload 4, 2) := by decide +kernel
theorem dX2_goOn_153 : decode cX2_goOn 153 = .ok (.invokevirtual 104, 3) := by decide +kernel
theorem dX2_goOn_156 : decode cX2_goOn 156 = .ok (.invokevirtual 108, 3) := by decide +kernel
theorem dX2_goOn_159 : decode cX2_goOn 159 = .ok (.aload_n 0, 1) := by decide +kernel
theorem dX2_goOn_160 : decode cX2_goOn 160 = .ok (.aload_n 0, 1) := by decide +kernel
theorem dX2_goOn_161 : decode cX2_goOn 161 = .ok (.getfield 39, 3) := by decide +kernel
theorem dX2_goOn_164 : decode cX2_goOn 164 = .ok (.iload_n 2, 1) := by decide +kernel
theorem dX2_goOn_165 : decode cX2_goOn 165 = .ok (.iload 4, 2) := by decide +kernel
theorem dX2_goOn_167 : decode cX2_goOn 167 = .ok (.invokevirtual 111, 3) := by decide +kernel
theorem dX2_goOn_170 : decode cX2_goOn 170 = .ok (.iload_n 3, 1) := by decide +kernel
theorem dX2_goOn_171 : decode cX2_goOn 171 = .ok (.invokevirtual 46, 3) := by decide +kernel
theorem dX2_goOn_174 : decode cX2_goOn 174 = .ok (.goto 82, 3) := by decide +kernel
theorem dX2_goOn_66 : decode cX2_goOn 66 = .ok (.iload 4, 2) := by decide +kernel
theorem dX2_goOn_68 : decode cX2_goOn 68 = .ok (.ifCond .ne 27, 3) := by decide +kernel
theorem dX2_goOn_101 : decode cX2_goOn 101 = .ok (.iload 4, 2) := by decide +kernel
theorem dX2_goOn_103 : decode cX2_goOn 103 = .ok (.iconst 1, 1) := by decide +kernel
theorem dX2_goOn_104 : decode cX2_goOn 104 = .ok (.if_icmp .ne 19, 3) := by decide +kernel
theorem dX2_goOn_107 : decode cX2_goOn 107 = .ok (.aload_n 0, 1) := by decide +kernel
theorem dX2_goOn_108 : decode cX2_goOn 108 = .ok (.aload_n 0, 1) := by decide +kernel
theorem dX2_goOn_109 : decode cX2_goOn 109 = .ok (.getfield 39, 3) := by decide +kernel
theorem dX2_goOn_112 : decode cX2_goOn 112 = .ok (.iload_n 2, 1) := by decide +kernel
theorem dX2_goOn_113 : decode cX2_goOn 113 = .ok (.invokevirtual 98, 3) := by decide +kernel
theorem dX2_goOn_116 : decode cX2_goOn 116 = .ok (.iload_n 3, 1) := by decide +kernel
theorem dX2_goOn_117 : decode cX2_goOn 117 = .ok (.invokevirtual 46, 3) := by decide +kernel
theorem dX2_goOn_120 : decode cX2_goOn 120 = .ok (.goto 136, 3) := by decide +kernel
theorem dX2_goOn_71 : decode cX2_goOn 71 = .ok (.aload_n 0, 1) := by decide +kernel
theorem dX2_goOn_72 : decode cX2_goOn 72 = .ok (.aload_n 0, 1) := by decide +kernel
theorem dX2_goOn_73 : decode cX2_goOn 73 = .ok (.getfield 39, 3) := by decide +kernel
theorem dX2_goOn_76 : decode cX2_goOn 76 = .ok (.iload_n 2, 1) := by decide +kernel
theorem dX2_goOn_77 : decode cX2_goOn 77 = .ok (.invokevirtual 95, 3) := by decide +kernel
theorem dX2_goOn_80 : decode cX2_goOn 80 = .ok (.iload_n 3, 1) := by decide +kernel
theorem dX2_goOn_81 : decode cX2_goOn 81 = .ok (.ifCond .ne 7, 3) := by decide +kernel
theorem dX2_goOn_88 : decode cX2_goOn 88 = .ok (.iconst 0, 1) := by decide +kernel
theorem dX2_goOn_89 : decode cX2_goOn 89 = .ok (.invokevirtual 46, 3) := by decide +kernel
theorem dX2_goOn_92 : decode cX2_goOn 92 = .ok (.goto 164, 3) := by decide +kernel
theorem dX2_goOn_84 : decode cX2_goOn 84 = .ok (.iconst 1, 1) := by decide +kernel
theorem dX2_goOn_85 : decode cX2_goOn 85 = .ok (.goto 4, 3) := by decide +kernel
set_option maxHeartbeats 4000000 in
set_option maxRecDepth 100000 in
/-- goOn -/
theorem l_goOn_6 (l : Launch) (G : cG) (S : cS) (T : Nat) (V : Nat) (VP : Nat) (X : Nat) (Y : Nat) (Z : Nat) (O : Nat) (sn : Nat) (hC : CL S) (hY : TY S T V VP X Y Z) (hVP : VP ≤ V) (hTS : kT S = ga G 6) (hTK : TK S 200 (O + 1) sn) (hsp : sn < 400) (Hs : Heap) : Met l yX2_goOn (wC yX2_goOn cX2_goOn 6 none) (cRm S 4 126) (cPc G S Hs [.ref (ga G 3)]) (cQv G S Hs (fun u => AW [19, 20, 21, 22] [200] S u ∧ (∃ O1 sm, TK u 200 O1 sm ∧ 2 * (400 - sm) + O1 < 2 * (400 - sn) + (O + 1)))) (CC - PT S) (12 * (CC - PT S)) (cA G S Hs.size) := by
  refine Met.ofW (cc := cX2_goOn) (maxL := 6) (ret := none) (by decide) rfl ?_
  intro p e s m args below meth c s₁ B hml hv
  obtain ⟨rfl, hsz, hP, hK, hD0, -⟩ := hv
  have hx := B.exec
  have hb := B.bytes
  have hr := B.returns
  have htu : ∀ w ∈ CU, w.before _ s = true := fun w h => atoms_spec (ws := (wC yX2_goOn cX2_goOn 6 none)) B.pre w (List.mem_cons_of_mem _ h)
  have hown : s.vm.findClass RX2 = some m.cls := findClass_of_methodNamed B.named
  have hlocks := B.notSynchronized
  subst hsz
  have hD : cD (cA G S s.heap.size) G S := cD_self hD0
  have hl := lv_entry ([.ref (ga G 3)]) (n := 6) (Nat.le_of_ble_eq_true rfl)
  rw [lg_entry_eq]
  generalize (lg_sl ([.ref (ga G 3)]) ++ List.replicate (6 - (lg_sl ([.ref (ga G 3)])).length) Slot.unset).toArray = ls at hl ⊢
  have hl : lv_has ls 6 [(0, .ref (ga G 3))] := hl
  obtain ⟨H, hHe⟩ : ∃ H : Heap, H = s.heap := ⟨_, rfl⟩
  rw [← hHe] at hP
  have hS : va_S (cA G S s.heap.size) s.heap H [] := by rw [hHe]; exact va_S.rf
  have hh : HS S S := HS.rf
  have hpp : PT S ≤ PT S := Nat.le_refl _
  have hB9 := hC.1
  refine W.heq hHe ?_
  refine c_ent (S := S) ?_
  obtain ⟨⟨h19, h20, h21⟩, hn, hcap, hos, hw⟩ := id hTK
  refine lv_aload_n hx hb dX2_goOn_0 rfl (lv_at hl 0 rfl) ?_
  refine va_get (D := gD G) (ci := 2) (v := .ref (kH S 19)) (C := RX2) (T := TX2) (N := 6) hx hb htu cu_in2 hown hK hP 3 cw_3 rfl 1 (by decide) (htu _ C_122) (fun _ h9 => h9) rfl dX2_goOn_1 ?_
  refine va_get (D := gD G) (ci := 0) (v := .int (nI (O + 1))) (C := RX0) (T := TX0) (N := 2) hx hb htu cu_in0 hown hK hP (2 * 19 + 13) (c_hd rfl (cw_row (lt35 (by decide)))) rfl 1 (by decide) (htu _ C_450) (fun _ h9 => h9) (m_v (congrArg nI h19)) dX2_goOn_4 ?_
  refine lv_iconst (v := 1) hx hb dX2_goOn_7 (by decide) ?_
  refine lv_isub hx hb dX2_goOn_8 ?_
  refine m_top (y := nI O) (nI_pred _) ?_
  refine lv_istore_n (lv' := [(1, .int (nI O)), (0, .ref (ga G 3))]) hx hb dX2_goOn_9 rfl hl (by decide) rfl (fun ls hl => ?_)
  refine lv_aload_n hx hb dX2_goOn_10 rfl (lv_at hl 1 rfl) ?_
  refine va_get (D := gD G) (ci := 2) (v := .ref (kH S 19)) (C := RX2) (T := TX2) (N := 6) hx hb htu cu_in2 hown hK hP 3 cw_3 rfl 1 (by decide) (htu _ C_122) (fun _ h9 => h9) rfl dX2_goOn_11 ?_
  refine lv_iload_n hx hb dX2_goOn_14 rfl (lv_at hl 0 rfl) ?_
  have hC0 := hC
  refine c_ci (c_runV (As := [.int (nI O)]) (rest := []) (q0 := (2 * 19 + 13)) (ci := 0) ⟨hx, hb, hml, hown, htu⟩ (c_getA l G S 19 (lt35 (by decide)) hC (kH S 19) rfl (nI O) H) (cwV 1 htu hU_X2_80 rfl rfl rfl (by decide +kernel) ⟨Nat.le_of_ble_eq_true rfl, Nat.le_of_ble_eq_true rfl⟩) hP hK hD hC hpp (c_hd rfl (cw_row (lt35 (by decide)))) rfl rfl hl.1 rfl (lv_room (Nat.le_of_ble_eq_true rfl)) dX2_goOn_15) hS hD hh hpp (fun r_1 S_2 H locs hw_3 hP hD hS hC hh hs_4 hpp => ?_)
  obtain ⟨hu9, hw_3⟩ := hw_3
  have hu9 := hu9.symm
  subst hu9
  refine lv_istore_n (lv' := [(2, .int r_1), (1, .int (nI O)), (0, .ref (ga G 3))]) hx hb dX2_goOn_18 rfl hl (by decide) rfl (fun ls hl => ?_)
  refine lv_aload_n hx hb dX2_goOn_19 rfl (lv_at hl 2 rfl) ?_
  refine va_get (D := gD G) (ci := 2) (v := .ref (kH S 20)) (C := RX2) (T := TX2) (N := 6) hx hb htu cu_in2 hown hK hP 3 cw_3 rfl 2 (by decide) (htu _ C_123) (fun _ h9 => h9) rfl dX2_goOn_20 ?_
  refine lv_iload_n hx hb dX2_goOn_23 rfl (lv_at hl 1 rfl) ?_
  have hC0 := hC
  refine c_ci (c_runV (As := [.int (nI O)]) (rest := []) (q0 := (2 * 20 + 13)) (ci := 0) ⟨hx, hb, hml, hown, htu⟩ (c_getA l G S 20 (lt35 (by decide)) hC (kH S 20) rfl (nI O) H) (cwV 1 htu hU_X2_80 rfl rfl rfl (by decide +kernel) ⟨Nat.le_of_ble_eq_true rfl, Nat.le_of_ble_eq_true rfl⟩) hP hK hD hC hpp (c_hd rfl (cw_row (lt35 (by decide)))) rfl rfl hl.1 rfl (lv_room (Nat.le_of_ble_eq_true rfl)) dX2_goOn_24) hS hD hh hpp (fun r_5 S_6 H locs hw_7 hP hD hS hC hh hs_8 hpp => ?_)
  obtain ⟨hu9, hw_7⟩ := hw_7
  have hu9 := hu9.symm
  subst hu9
  obtain ⟨wd, hwd, ewd⟩ := W20.get hw h20 (Nat.lt_succ_self O) (Nat.le_trans hos (Nat.le_trans hcap (by decide)))
  obtain rfl : r_5 = nI wd := hw_7.trans ewd
  refine lv_istore_n (lv' := [(3, .int (nI wd)), (2, .int r_1), (1, .int (nI O)), (0, .ref (ga G 3))]) hx hb dX2_goOn_27 rfl hl (by decide) rfl (fun ls hl => ?_)
  refine lv_aload_n hx hb dX2_goOn_28 rfl (lv_at hl 3 rfl) ?_
  refine va_get (D := gD G) (ci := 2) (v := .ref (kH S 21)) (C := RX2) (T := TX2) (N := 6) hx hb htu cu_in2 hown hK hP 3 cw_3 rfl 3 (by decide) (htu _ C_124) (fun _ h9 => h9) rfl dX2_goOn_29 ?_
  refine lv_iload_n hx hb dX2_goOn_32 rfl (lv_at hl 2 rfl) ?_
  have hC0 := hC
  refine c_ci (c_runV (As := [.int (nI O)]) (rest := []) (q0 := (2 * 21 + 13)) (ci := 0) ⟨hx, hb, hml, hown, htu⟩ (c_getA l G S 21 (lt35 (by decide)) hC (kH S 21) rfl (nI O) H) (cwV 1 htu hU_X2_80 rfl rfl rfl (by decide +kernel) ⟨Nat.le_of_ble_eq_true rfl, Nat.le_of_ble_eq_true rfl⟩) hP hK hD hC hpp (c_hd rfl (cw_row (lt35 (by decide)))) rfl rfl hl.1 rfl (lv_room (Nat.le_of_ble_eq_true rfl)) dX2_goOn_33) hS hD hh hpp (fun r_9 S_10 H locs hw_11 hP hD hS hC hh hs_12 hpp => ?_)
  obtain ⟨hu9, hw_11⟩ := hw_11
  have hu9 := hu9.symm
  subst hu9
  refine lv_istore (lv' := [(4, .int r_9), (3, .int (nI wd)), (2, .int r_1), (1, .int (nI O)), (0, .ref (ga G 3))]) hx hb dX2_goOn_36 hl (by decide) rfl (fun ls hl => ?_)
  refine lv_aload_n hx hb dX2_goOn_38 rfl (lv_at hl 4 rfl) ?_
  refine va_get (D := gD G) (ci := 2) (v := .ref (ga G 2)) (C := RX2) (T := TX2) (N := 6) hx hb htu cu_in2 hown hK hP 3 cw_3 rfl 0 (by decide) (htu _ C_128) (fun _ h9 => h9) rfl dX2_goOn_39 ?_
  refine lv_iload_n hx hb dX2_goOn_42 rfl (lv_at hl 2 rfl) ?_
  have hC0 := hC
  refine c_ci (c_runV (As := [.int r_1]) (rest := []) (q0 := 2) (ci := 4) ⟨hx, hb, hml, hown, htu⟩ (y_sortOf l G S r_1 hC  H) (cwV 1 htu hU_X2_65 rfl rfl rfl (by decide +kernel) ⟨Nat.le_of_ble_eq_true rfl, Nat.le_of_ble_eq_true rfl⟩) hP hK hD hC hpp cw_2 rfl rfl hl.1 rfl (lv_room (Nat.le_of_ble_eq_true rfl)) dX2_goOn_43) hS hD hh hpp (fun r_13 S_14 H locs hw_15 hP hD hS hC hh hs_16 hpp => ?_)
  obtain ⟨-, hu9, hw_15⟩ := hw_15
  have hu9 := hu9.symm
  subst hu9
  refine lv_istore (lv' := [(5, .int r_13), (4, .int r_9), (3, .int (nI wd)), (2, .int r_1), (1, .int (nI O)), (0, .ref (ga G 3))]) hx hb dX2_goOn_46 hl (by decide) rfl (fun ls hl => ?_)
  refine lv_aload_n hx hb dX2_goOn_48 rfl (lv_at hl 5 rfl) ?_
  refine va_get (D := gD G) (ci := 2) (v := .ref (kH S 21)) (C := RX2) (T := TX2) (N := 6) hx hb htu cu_in2 hown hK hP 3 cw_3 rfl 3 (by decide) (htu _ C_124) (fun _ h9 => h9) rfl dX2_goOn_49 ?_
  refine lv_iload_n hx hb dX2_goOn_52 rfl (lv_at hl 4 rfl) ?_
  refine lv_iload hx hb dX2_goOn_53 (lv_at hl 1 rfl) ?_
  refine lv_iconst (v := 1) hx hb dX2_goOn_55 (by decide) ?_
  refine lv_iadd hx hb dX2_goOn_56 ?_
  refine lv_topi (fun f_17 ef_17 => ?_)
  have hC0 := hC
  refine c_cv (c_runV (As := [.int (nI O), .int f_17]) (rest := []) (q0 := (2 * 21 + 13)) (ci := 0) ⟨hx, hb, hml, hown, htu⟩ (c_setA l G S 21 (lt35 (by decide)) hC (kH S 21) rfl (nI O) f_17 H) (cwV 2 htu hU_X2_86 rfl rfl rfl (by decide +kernel) ⟨Nat.le_of_ble_eq_true rfl, Nat.le_of_ble_eq_true rfl⟩) hP hK hD hC hpp (c_hd rfl (cw_row (lt35 (by decide)))) rfl rfl hl.1 rfl (lv_room (Nat.le_of_ble_eq_true rfl)) dX2_goOn_57) hS hD hh hpp (fun S_19 H locs hw_20 hP hD hS hC hh hs_21 hpp => ?_)
  try dsimp only at hw_20
  have aw_22 : AW [21] [] S S_19 := (by rw [hw_20]; exact AW.u (by decide))
  have aw_22t : AW [19, 20, 21, 22] [200] S S_19 := AW.rf.tr (aw_22.mono (by decide) (by decide))
  have kk_23 : kK S_19 19 = O + 1 := (aw_22.2.1 19 (lt35 (by decide)) (by decide)).2.trans h19
  have kk_24 : kK S_19 20 = O + 1 := (aw_22.2.1 20 (lt35 (by decide)) (by decide)).2.trans h20
  have ii_25 : S_19.1 200 = nI sn := (aw_22.1 200 (by decide)).trans hn
  have wy_26 : W20 S_19 (O + 1) := W20.aw hw aw_22 (by decide)
  have ty_27 := TY.aw hY aw_22 (by decide)
  have kk_28 : kK S_19 21 = O + 1 := by rw [hw_20]; exact uR_K.trans h21
  have tk_29 := TK.set hTK hw_20
  refine lv_iload hx hb dX2_goOn_60 (lv_at hl 0 rfl) ?_
  refine lv_iconst (v := 2) hx hb dX2_goOn_62 (by decide) ?_
  refine lv_icmp_ne (tgt := 95) hx hb dX2_goOn_63 (by decide) (fun c_30 => ?_) (fun c_30 => ?_)
  · skip
    refine lv_iload hx hb dX2_goOn_95 (lv_at hl 0 rfl) ?_
    refine lv_iconst (v := 2) hx hb dX2_goOn_97 (by decide) ?_
    refine lv_icmp_ne (tgt := 123) hx hb dX2_goOn_98 (by decide) (fun c_31 => ?_) (fun c_31 => absurd c_31 c_30)
    refine lv_iload hx hb dX2_goOn_123 (lv_at hl 0 rfl) ?_
    refine lv_iconst (v := 3) hx hb dX2_goOn_125 (by decide) ?_
    refine lv_icmp_ne (tgt := 177) hx hb dX2_goOn_126 (by decide) (fun c_32 => ?_) (fun c_32 => ?_)
    · skip
      refine lv_iload hx hb dX2_goOn_177 (lv_at hl 0 rfl) ?_
      refine lv_iconst (v := 4) hx hb dX2_goOn_179 (by decide) ?_
      refine lv_icmp_ne (tgt := 222) hx hb dX2_goOn_180 (by decide) (fun c_33 => ?_) (fun c_33 => ?_)
      · skip
        refine lv_iload hx hb dX2_goOn_222 (lv_at hl 0 rfl) ?_
        refine lv_iconst (v := 3) hx hb dX2_goOn_224 (by decide) ?_
        refine lv_icmp_ne (tgt := 237) hx hb dX2_goOn_225 (by decide) (fun c_34 => ?_) (fun c_34 => absurd c_34 c_32)
        refine lv_iload hx hb dX2_goOn_237 (lv_at hl 0 rfl) ?_
        refine lv_iconst (v := 4) hx hb dX2_goOn_239 (by decide) ?_
        refine lv_icmp_ne (tgt := 252) hx hb dX2_goOn_240 (by decide) (fun c_35 => ?_) (fun c_35 => absurd c_35 c_33)
        refine lv_aload_n hx hb dX2_goOn_252 rfl (lv_at hl 5 rfl) ?_
        have hC0 := hC
        refine c_cv (c_runV (As := []) (rest := []) (q0 := 3) (ci := 2) ⟨hx, hb, hml, hown, htu⟩ (l_close_6 l G S_19 T V VP X Y Z O sn hC ty_27 tk_29 H) (cwV 0 htu hU_X2_59 rfl rfl rfl (by decide +kernel) ⟨Nat.le_of_ble_eq_true rfl, Nat.le_of_ble_eq_true rfl⟩) hP hK hD hC hpp cw_3 rfl rfl hl.1 rfl (lv_room (Nat.le_of_ble_eq_true rfl)) dX2_goOn_253) hS hD hh hpp (fun S_37 H locs hw_38 hP hD hS hC hh hs_39 hpp => ?_)
        try dsimp only at hw_38
        have aw_40 : AW [19, 20, 21, 22] [] S_19 S_37 := hw_38.1
        have aw_40t : AW [19, 20, 21, 22] [200] S S_37 := aw_22t.tr (aw_40.mono (by decide) (by decide))
        have ii_41 : S_37.1 200 = nI sn := (aw_40.1 200 (by decide)).trans ii_25
        have ty_42 := TY.aw ty_27 aw_40 (by decide)
        have cl_43 := hw_38.2
        exact c_vret hx hb hr hK hP hD hS hC hh hpp ⟨aw_40t, ⟨O, sn, cl_43, tg_cl (Nat.le_refl _)⟩⟩ dX2_goOn_256 hlocks
      · skip
        refine lv_iload hx hb dX2_goOn_183 (lv_at hl 1 rfl) ?_
        refine lv_aload_n hx hb dX2_goOn_185 rfl (lv_at hl 5 rfl) ?_
        refine va_get (D := gD G) (ci := 2) (v := .ref (ga G 2)) (C := RX2) (T := TX2) (N := 6) hx hb htu cu_in2 hown hK hP 3 cw_3 rfl 0 (by decide) (htu _ C_128) (fun _ h9 => h9) rfl dX2_goOn_186 ?_
        refine lv_iload_n hx hb dX2_goOn_189 rfl (lv_at hl 3 rfl) ?_
        refine lv_iload_n hx hb dX2_goOn_190 rfl (lv_at hl 2 rfl) ?_
        have hC0 := hC
        refine c_cr (c_runV (As := [.int r_1, .int (nI wd)]) (rest := [.int r_9]) (q0 := 2) (ci := 4) ⟨hx, hb, hml, hown, htu⟩ (y_boundsOf l G S_19 T V VP X Y Z r_1 wd hC ty_27 ((by omega)) hwd H) (cwV 2 htu hU_X2_76 rfl rfl rfl (by decide +kernel) ⟨Nat.le_of_ble_eq_true rfl, Nat.le_of_ble_eq_true rfl⟩) hP hK hD hC hpp cw_2 rfl rfl hl.1 rfl (lv_room (Nat.le_of_ble_eq_true rfl)) dX2_goOn_191) hS hD hh hpp (fun r_44 S_45 H locs hw_46 hP hD hS hC hh hs_47 hpp => ?_)
        obtain ⟨-, hu9, hw_46⟩ := hw_46
        have hu9 := hu9.symm
        subst hu9
        obtain ⟨br_48r, br_48e, br_481⟩ := hw_46
        have br_48b := ty_27.2.1.2.2.1
        have br_48l : br_48r < 35 + kB S_19 := bnd_lt br_481 br_48b hwd
        have br_48h : kH S_19 br_48r = r_44 := br_48e.symm
        refine va_get (D := gD G) (ci := 0) (v := .int (nI (kK S_19 br_48r))) (C := RX0) (T := TX0) (N := 2) hx hb htu cu_in0 hown hK hP (2 * br_48r + 13) (c_hd br_48h (cw_row br_48l)) rfl 1 (by decide) (htu _ C_450) (fun _ h9 => h9) rfl dX2_goOn_194 ?_
        refine lv_icmp_ge (tgt := 222) hx hb dX2_goOn_197 (by decide) (fun c_49 => ?_) (fun c_49 => ?_)
        · skip
          refine lv_iload hx hb dX2_goOn_222 (lv_at hl 0 rfl) ?_
          refine lv_iconst (v := 3) hx hb dX2_goOn_224 (by decide) ?_
          refine lv_icmp_ne (tgt := 237) hx hb dX2_goOn_225 (by decide) (fun c_50 => ?_) (fun c_50 => absurd c_50 c_32)
          refine lv_iload hx hb dX2_goOn_237 (lv_at hl 0 rfl) ?_
          refine lv_iconst (v := 4) hx hb dX2_goOn_239 (by decide) ?_
          refine lv_icmp_ne (tgt := 252) hx hb dX2_goOn_240 (by decide) (fun c_51 => absurd c_33 c_51) (fun c_51 => ?_)
          refine lv_aload_n hx hb dX2_goOn_243 rfl (lv_at hl 5 rfl) ?_
          refine va_get (D := gD G) (ci := 2) (v := .ref (ga G 6)) (C := RX2) (T := TX2) (N := 6) hx hb htu cu_in2 hown hK hP 3 cw_3 rfl 5 (by decide) (htu _ C_127) (fun _ h9 => h9) (c_hv ((aw_22.2.2.1 (by decide)).trans hTS)) dX2_goOn_244 ?_
          refine lv_bipush (v := 46) hx hb dX2_goOn_247 (by decide) ?_
          have hC0 := hC
          refine c_cv (c_runV (As := [.int 46]) (rest := []) (q0 := 6) (ci := 1) ⟨hx, hb, hml, hown, htu⟩ (s_put_6 l G S_19 sn 46 hC ii_25 hcap H) (cwV 1 htu hU_X2_69 rfl rfl rfl (by decide +kernel) ⟨Nat.le_of_ble_eq_true rfl, Nat.le_of_ble_eq_true rfl⟩) hP hK hD hC hpp cw_6 rfl rfl hl.1 rfl (lv_room (Nat.le_of_ble_eq_true rfl)) dX2_goOn_249) hS hD hh hpp (fun S_53 H locs hw_54 hP hD hS hC hh hs_55 hpp => ?_)
          try dsimp only at hw_54
          have aw_56 : AW [] [200] S_19 S_53 := hw_54.1
          have aw_56t : AW [19, 20, 21, 22] [200] S S_53 := aw_22t.tr (aw_56.mono (by decide) (by decide))
          have kk_57 : kK S_53 19 = O + 1 := (aw_56.2.1 19 (lt35 (by decide)) (by decide)).2.trans kk_23
          have kk_58 : kK S_53 20 = O + 1 := (aw_56.2.1 20 (lt35 (by decide)) (by decide)).2.trans kk_24
          have kk_59 : kK S_53 21 = O + 1 := (aw_56.2.1 21 (lt35 (by decide)) (by decide)).2.trans kk_28
          have ha_60r : br_48r < 35 + kB S_53 := by have := hs_55.1; have := br_48l; omega
          have ha_60 : kH S_53 br_48r = r_44 := (hs_55.2 br_48r br_48l).trans br_48h
          have wy_61 : W20 S_53 (O + 1) := W20.aw wy_26 aw_56 (by decide)
          have ty_62 := TY.aw ty_27 aw_56 (by decide)
          obtain ⟨sg_63, sg_631, sg_632, sg_633, sg_634⟩ := hw_54.2
          have tk_64 := TK.sg tk_29 aw_56 (by decide) sg_631 sg_632 sg_633
          refine lv_aload_n hx hb dX2_goOn_252 rfl (lv_at hl 5 rfl) ?_
          have hC0 := hC
          refine c_cv (c_runV (As := []) (rest := []) (q0 := 3) (ci := 2) ⟨hx, hb, hml, hown, htu⟩ (l_close_6 l G S_53 T V VP X Y Z O sg_63 hC ty_62 tk_64 H) (cwV 0 htu hU_X2_59 rfl rfl rfl (by decide +kernel) ⟨Nat.le_of_ble_eq_true rfl, Nat.le_of_ble_eq_true rfl⟩) hP hK hD hC hpp cw_3 rfl rfl hl.1 rfl (lv_room (Nat.le_of_ble_eq_true rfl)) dX2_goOn_253) hS hD hh hpp (fun S_66 H locs hw_67 hP hD hS hC hh hs_68 hpp => ?_)
          try dsimp only at hw_67
          have aw_69 : AW [19, 20, 21, 22] [] S_53 S_66 := hw_67.1
          have aw_69t : AW [19, 20, 21, 22] [200] S S_66 := aw_56t.tr (aw_69.mono (by decide) (by decide))
          have ii_70 : S_66.1 200 = nI sg_63 := (aw_69.1 200 (by decide)).trans sg_631
          have ha_71r : br_48r < 35 + kB S_66 := by have := hs_68.1; have := ha_60r; omega
          have ha_71 : kH S_66 br_48r = r_44 := (hs_68.2 br_48r ha_60r).trans ha_60
          have ty_72 := TY.aw ty_62 aw_69 (by decide)
          have cl_73 := hw_67.2
          exact c_vret hx hb hr hK hP hD hS hC hh hpp ⟨aw_69t, ⟨O, sg_63, cl_73, tg_cl (sg_632)⟩⟩ dX2_goOn_256 hlocks
        · skip
          refine lv_aload_n hx hb dX2_goOn_200 rfl (lv_at hl 5 rfl) ?_
          refine lv_aload_n hx hb dX2_goOn_201 rfl (lv_at hl 5 rfl) ?_
          refine va_get (D := gD G) (ci := 2) (v := .ref (ga G 2)) (C := RX2) (T := TX2) (N := 6) hx hb htu cu_in2 hown hK hP 3 cw_3 rfl 0 (by decide) (htu _ C_128) (fun _ h9 => h9) rfl dX2_goOn_202 ?_
          refine lv_iload_n hx hb dX2_goOn_205 rfl (lv_at hl 3 rfl) ?_
          refine lv_iload_n hx hb dX2_goOn_206 rfl (lv_at hl 2 rfl) ?_
          have hC0 := hC
          refine c_cr (c_runV (As := [.int r_1, .int (nI wd)]) (rest := [.ref (ga G 3)]) (q0 := 2) (ci := 4) ⟨hx, hb, hml, hown, htu⟩ (y_boundsOf l G S_19 T V VP X Y Z r_1 wd hC ty_27 ((by omega)) hwd H) (cwV 2 htu hU_X2_76 rfl rfl rfl (by decide +kernel) ⟨Nat.le_of_ble_eq_true rfl, Nat.le_of_ble_eq_true rfl⟩) hP hK hD hC hpp cw_2 rfl rfl hl.1 rfl (lv_room (Nat.le_of_ble_eq_true rfl)) dX2_goOn_207) hS hD hh hpp (fun r_74 S_75 H locs hw_76 hP hD hS hC hh hs_77 hpp => ?_)
          obtain ⟨-, hu9, hw_76⟩ := hw_76
          have hu9 := hu9.symm
          subst hu9
          obtain ⟨br_78r, br_78e, br_781⟩ := hw_76
          have br_78b := ty_27.2.1.2.2.1
          have br_78l : br_78r < 35 + kB S_19 := bnd_lt br_781 br_78b hwd
          have br_78h : kH S_19 br_78r = r_74 := br_78e.symm
          refine lv_iload hx hb dX2_goOn_210 (lv_at hl 1 rfl) ?_
          have hC0 := hC
          refine c_ci (c_runV (As := [.int r_9]) (rest := [.ref (ga G 3)]) (q0 := (2 * br_78r + 13)) (ci := 0) ⟨hx, hb, hml, hown, htu⟩ (c_getA l G S_19 br_78r br_78l hC r_74 br_78h r_9 H) (cwV 1 htu hU_X2_80 rfl rfl rfl (by decide +kernel) ⟨Nat.le_of_ble_eq_true rfl, Nat.le_of_ble_eq_true rfl⟩) hP hK hD hC hpp (c_hd br_78h (cw_row br_78l)) rfl rfl hl.1 rfl (lv_room (Nat.le_of_ble_eq_true rfl)) dX2_goOn_212) hS hD hh hpp (fun r_79 S_80 H locs hw_81 hP hD hS hC hh hs_82 hpp => ?_)
          obtain ⟨hu9, hw_81⟩ := hw_81
          have hu9 := hu9.symm
          subst hu9
          refine lv_iload_n hx hb dX2_goOn_215 rfl (lv_at hl 2 rfl) ?_
          have hC0 := hC
          refine c_cv (c_runV (As := [.int r_79, .int (nI wd)]) (rest := []) (q0 := 3) (ci := 2) ⟨hx, hb, hml, hown, htu⟩ (l_begin_6 l G S_19 T V VP X Y Z (O + 1) sn wd r_79 hC ty_27 hVP (((aw_22.2.2.1 (by decide)).trans hTS)) tk_29 ((Or.inl hsp)) hwd H) (cwV 2 htu hU_X2_46 rfl rfl rfl (by decide +kernel) ⟨Nat.le_of_ble_eq_true rfl, Nat.le_of_ble_eq_true rfl⟩) hP hK hD hC hpp cw_3 rfl rfl hl.1 rfl (lv_room (Nat.le_of_ble_eq_true rfl)) dX2_goOn_216) hS hD hh hpp (fun S_84 H locs hw_85 hP hD hS hC hh hs_86 hpp => ?_)
          try dsimp only at hw_85
          have aw_87 : AW [19, 20, 21, 22] [200] S_19 S_84 := hw_85.1
          have aw_87t : AW [19, 20, 21, 22] [200] S S_84 := aw_22t.tr (aw_87.mono (by decide) (by decide))
          have ha_88r : br_48r < 35 + kB S_84 := by have := hs_86.1; have := br_48l; omega
          have ha_88 : kH S_84 br_48r = r_44 := (hs_86.2 br_48r br_48l).trans br_48h
          have ha_89r : br_78r < 35 + kB S_84 := by have := hs_86.1; have := br_78l; omega
          have ha_89 : kH S_84 br_78r = r_74 := (hs_86.2 br_78r br_78l).trans br_78h
          have ty_90 := TY.aw ty_27 aw_87 (by decide)
          obtain ⟨bg_91O, bg_91m, bg_91, bg_911, bg_912, bg_913⟩ := hw_85.2
          refine lv_goto (tgt := 256) hx hb dX2_goOn_219 (by decide) ?_
          exact c_vret hx hb hr hK hP hD hS hC hh hpp ⟨aw_87t, ⟨bg_91O, bg_91m, bg_91, tg_dec (bg_913 hsp) bg_91.2.2.1 bg_912⟩⟩ dX2_goOn_256 hlocks
    · skip
      refine lv_iload hx hb dX2_goOn_129 (lv_at hl 1 rfl) ?_
      refine lv_aload_n hx hb dX2_goOn_131 rfl (lv_at hl 5 rfl) ?_
      refine va_get (D := gD G) (ci := 2) (v := .ref (ga G 2)) (C := RX2) (T := TX2) (N := 6) hx hb htu cu_in2 hown hK hP 3 cw_3 rfl 0 (by decide) (htu _ C_128) (fun _ h9 => h9) rfl dX2_goOn_132 ?_
      refine lv_iload_n hx hb dX2_goOn_135 rfl (lv_at hl 3 rfl) ?_
      have hC0 := hC
      refine c_ci (c_runV (As := [.int r_1]) (rest := [.int r_9]) (q0 := 2) (ci := 4) ⟨hx, hb, hml, hown, htu⟩ (y_fieldCount l G S_19 T V VP X Y Z r_1 hC ty_27 H) (cwV 1 htu hU_X2_101 rfl rfl rfl (by decide +kernel) ⟨Nat.le_of_ble_eq_true rfl, Nat.le_of_ble_eq_true rfl⟩) hP hK hD hC hpp cw_2 rfl rfl hl.1 rfl (lv_room (Nat.le_of_ble_eq_true rfl)) dX2_goOn_136) hS hD hh hpp (fun r_92 S_93 H locs hw_94 hP hD hS hC hh hs_95 hpp => ?_)
      obtain ⟨-, hu9, hw_94⟩ := hw_94
      have hu9 := hu9.symm
      subst hu9
      refine lv_icmp_ge (tgt := 177) hx hb dX2_goOn_139 (by decide) (fun c_96 => ?_) (fun c_96 => ?_)
      · skip
        refine lv_iload hx hb dX2_goOn_177 (lv_at hl 0 rfl) ?_
        refine lv_iconst (v := 4) hx hb dX2_goOn_179 (by decide) ?_
        refine lv_icmp_ne (tgt := 222) hx hb dX2_goOn_180 (by decide) (fun c_97 => ?_) (fun c_97 => absurd c_97 (fun h => absurd (c_32.symm.trans h) (by decide)))
        refine lv_iload hx hb dX2_goOn_222 (lv_at hl 0 rfl) ?_
        refine lv_iconst (v := 3) hx hb dX2_goOn_224 (by decide) ?_
        refine lv_icmp_ne (tgt := 237) hx hb dX2_goOn_225 (by decide) (fun c_98 => absurd c_32 c_98) (fun c_98 => ?_)
        refine lv_aload_n hx hb dX2_goOn_228 rfl (lv_at hl 5 rfl) ?_
        refine va_get (D := gD G) (ci := 2) (v := .ref (ga G 6)) (C := RX2) (T := TX2) (N := 6) hx hb htu cu_in2 hown hK hP 3 cw_3 rfl 5 (by decide) (htu _ C_127) (fun _ h9 => h9) (c_hv ((aw_22.2.2.1 (by decide)).trans hTS)) dX2_goOn_229 ?_
        refine lv_bipush (v := 125) hx hb dX2_goOn_232 (by decide) ?_
        have hC0 := hC
        refine c_cv (c_runV (As := [.int 125]) (rest := []) (q0 := 6) (ci := 1) ⟨hx, hb, hml, hown, htu⟩ (s_put_6 l G S_19 sn 125 hC ii_25 hcap H) (cwV 1 htu hU_X2_69 rfl rfl rfl (by decide +kernel) ⟨Nat.le_of_ble_eq_true rfl, Nat.le_of_ble_eq_true rfl⟩) hP hK hD hC hpp cw_6 rfl rfl hl.1 rfl (lv_room (Nat.le_of_ble_eq_true rfl)) dX2_goOn_234) hS hD hh hpp (fun S_100 H locs hw_101 hP hD hS hC hh hs_102 hpp => ?_)
        try dsimp only at hw_101
        have aw_103 : AW [] [200] S_19 S_100 := hw_101.1
        have aw_103t : AW [19, 20, 21, 22] [200] S S_100 := aw_22t.tr (aw_103.mono (by decide) (by decide))
        have kk_104 : kK S_100 19 = O + 1 := (aw_103.2.1 19 (lt35 (by decide)) (by decide)).2.trans kk_23
        have kk_105 : kK S_100 20 = O + 1 := (aw_103.2.1 20 (lt35 (by decide)) (by decide)).2.trans kk_24
        have kk_106 : kK S_100 21 = O + 1 := (aw_103.2.1 21 (lt35 (by decide)) (by decide)).2.trans kk_28
        have wy_107 : W20 S_100 (O + 1) := W20.aw wy_26 aw_103 (by decide)
        have ty_108 := TY.aw ty_27 aw_103 (by decide)
        obtain ⟨sg_109, sg_1091, sg_1092, sg_1093, sg_1094⟩ := hw_101.2
        have tk_110 := TK.sg tk_29 aw_103 (by decide) sg_1091 sg_1092 sg_1093
        refine lv_iload hx hb dX2_goOn_237 (lv_at hl 0 rfl) ?_
        refine lv_iconst (v := 4) hx hb dX2_goOn_239 (by decide) ?_
        refine lv_icmp_ne (tgt := 252) hx hb dX2_goOn_240 (by decide) (fun c_111 => ?_) (fun c_111 => absurd c_111 (fun h => absurd (c_32.symm.trans h) (by decide)))
        refine lv_aload_n hx hb dX2_goOn_252 rfl (lv_at hl 5 rfl) ?_
        have hC0 := hC
        refine c_cv (c_runV (As := []) (rest := []) (q0 := 3) (ci := 2) ⟨hx, hb, hml, hown, htu⟩ (l_close_6 l G S_100 T V VP X Y Z O sg_109 hC ty_108 tk_110 H) (cwV 0 htu hU_X2_59 rfl rfl rfl (by decide +kernel) ⟨Nat.le_of_ble_eq_true rfl, Nat.le_of_ble_eq_true rfl⟩) hP hK hD hC hpp cw_3 rfl rfl hl.1 rfl (lv_room (Nat.le_of_ble_eq_true rfl)) dX2_goOn_253) hS hD hh hpp (fun S_113 H locs hw_114 hP hD hS hC hh hs_115 hpp => ?_)
        try dsimp only at hw_114
        have aw_116 : AW [19, 20, 21, 22] [] S_100 S_113 := hw_114.1
        have aw_116t : AW [19, 20, 21, 22] [200] S S_113 := aw_103t.tr (aw_116.mono (by decide) (by decide))
        have ii_117 : S_113.1 200 = nI sg_109 := (aw_116.1 200 (by decide)).trans sg_1091
        have ty_118 := TY.aw ty_108 aw_116 (by decide)
        have cl_119 := hw_114.2
        exact c_vret hx hb hr hK hP hD hS hC hh hpp ⟨aw_116t, ⟨O, sg_109, cl_119, tg_cl (sg_1092)⟩⟩ dX2_goOn_256 hlocks
      · skip
        refine lv_aload_n hx hb dX2_goOn_142 rfl (lv_at hl 5 rfl) ?_
        refine va_get (D := gD G) (ci := 2) (v := .ref (ga G 6)) (C := RX2) (T := TX2) (N := 6) hx hb htu cu_in2 hown hK hP 3 cw_3 rfl 5 (by decide) (htu _ C_127) (fun _ h9 => h9) (c_hv ((aw_22.2.2.1 (by decide)).trans hTS)) dX2_goOn_143 ?_
        refine lv_aload_n hx hb dX2_goOn_146 rfl (lv_at hl 5 rfl) ?_
        refine va_get (D := gD G) (ci := 2) (v := .ref (ga G 2)) (C := RX2) (T := TX2) (N := 6) hx hb htu cu_in2 hown hK hP 3 cw_3 rfl 0 (by decide) (htu _ C_128) (fun _ h9 => h9) rfl dX2_goOn_147 ?_
        refine lv_iload_n hx hb dX2_goOn_150 rfl (lv_at hl 3 rfl) ?_
        refine lv_iload hx hb dX2_goOn_151 (lv_at hl 1 rfl) ?_
        have hC0 := hC
        refine c_ci (c_runV (As := [.int r_1, .int r_9]) (rest := [.ref (ga G 6)]) (q0 := 2) (ci := 4) ⟨hx, hb, hml, hown, htu⟩ (y_labelAt l G S_19 r_1 r_9 hC  H) (cwV 2 htu hU_X2_104 rfl rfl rfl (by decide +kernel) ⟨Nat.le_of_ble_eq_true rfl, Nat.le_of_ble_eq_true rfl⟩) hP hK hD hC hpp cw_2 rfl rfl hl.1 rfl (lv_room (Nat.le_of_ble_eq_true rfl)) dX2_goOn_153) hS hD hh hpp (fun r_120 S_121 H locs hw_122 hP hD hS hC hh hs_123 hpp => ?_)
        obtain ⟨-, hu9⟩ := hw_122
        have hu9 := hu9.symm
        subst hu9
        have hC0 := hC
        refine c_cv (c_runV (As := [.int r_120]) (rest := []) (q0 := 6) (ci := 1) ⟨hx, hb, hml, hown, htu⟩ (s_putLetter_6 l G S_19 sn r_120 hC ii_25 hcap H) (cwV 1 htu hU_X2_108 rfl rfl rfl (by decide +kernel) ⟨Nat.le_of_ble_eq_true rfl, Nat.le_of_ble_eq_true rfl⟩) hP hK hD hC hpp cw_6 rfl rfl hl.1 rfl (lv_room (Nat.le_of_ble_eq_true rfl)) dX2_goOn_156) hS hD hh hpp (fun S_125 H locs hw_126 hP hD hS hC hh hs_127 hpp => ?_)
        try dsimp only at hw_126
        have aw_128 : AW [] [200] S_19 S_125 := hw_126.1
        have aw_128t : AW [19, 20, 21, 22] [200] S S_125 := aw_22t.tr (aw_128.mono (by decide) (by decide))
        have kk_129 : kK S_125 19 = O + 1 := (aw_128.2.1 19 (lt35 (by decide)) (by decide)).2.trans kk_23
        have kk_130 : kK S_125 20 = O + 1 := (aw_128.2.1 20 (lt35 (by decide)) (by decide)).2.trans kk_24
        have kk_131 : kK S_125 21 = O + 1 := (aw_128.2.1 21 (lt35 (by decide)) (by decide)).2.trans kk_28
        have wy_132 : W20 S_125 (O + 1) := W20.aw wy_26 aw_128 (by decide)
        have ty_133 := TY.aw ty_27 aw_128 (by decide)
        obtain ⟨sg_134, sg_1341, sg_1342, sg_1343, sg_1344⟩ := hw_126.2
        have tk_135 := TK.sg tk_29 aw_128 (by decide) sg_1341 sg_1342 sg_1343
        refine lv_aload_n hx hb dX2_goOn_159 rfl (lv_at hl 5 rfl) ?_
        refine lv_aload_n hx hb dX2_goOn_160 rfl (lv_at hl 5 rfl) ?_
        refine va_get (D := gD G) (ci := 2) (v := .ref (ga G 2)) (C := RX2) (T := TX2) (N := 6) hx hb htu cu_in2 hown hK hP 3 cw_3 rfl 0 (by decide) (htu _ C_128) (fun _ h9 => h9) rfl dX2_goOn_161 ?_
        refine lv_iload_n hx hb dX2_goOn_164 rfl (lv_at hl 3 rfl) ?_
        refine lv_iload hx hb dX2_goOn_165 (lv_at hl 1 rfl) ?_
        have hC0 := hC
        refine c_ci (c_runV (As := [.int r_1, .int r_9]) (rest := [.ref (ga G 3)]) (q0 := 2) (ci := 4) ⟨hx, hb, hml, hown, htu⟩ (y_partAt l G S_125 r_1 r_9 hC  H) (cwV 2 htu hU_X2_111 rfl rfl rfl (by decide +kernel) ⟨Nat.le_of_ble_eq_true rfl, Nat.le_of_ble_eq_true rfl⟩) hP hK hD hC hpp cw_2 rfl rfl hl.1 rfl (lv_room (Nat.le_of_ble_eq_true rfl)) dX2_goOn_167) hS hD hh hpp (fun r_136 S_137 H locs hw_138 hP hD hS hC hh hs_139 hpp => ?_)
        obtain ⟨-, hu9⟩ := hw_138
        have hu9 := hu9.symm
        subst hu9
        refine lv_iload_n hx hb dX2_goOn_170 rfl (lv_at hl 2 rfl) ?_
        have hC0 := hC
        refine c_cv (c_runV (As := [.int r_136, .int (nI wd)]) (rest := []) (q0 := 3) (ci := 2) ⟨hx, hb, hml, hown, htu⟩ (l_begin_6 l G S_125 T V VP X Y Z (O + 1) sg_134 wd r_136 hC ty_133 hVP (((aw_128.2.2.1 (by decide)).trans ((aw_22.2.2.1 (by decide)).trans hTS))) tk_135 ((Or.inr (Nat.lt_of_le_of_lt hos (sg_1344 hsp)))) hwd H) (cwV 2 htu hU_X2_46 rfl rfl rfl (by decide +kernel) ⟨Nat.le_of_ble_eq_true rfl, Nat.le_of_ble_eq_true rfl⟩) hP hK hD hC hpp cw_3 rfl rfl hl.1 rfl (lv_room (Nat.le_of_ble_eq_true rfl)) dX2_goOn_171) hS hD hh hpp (fun S_141 H locs hw_142 hP hD hS hC hh hs_143 hpp => ?_)
        try dsimp only at hw_142
        have aw_144 : AW [19, 20, 21, 22] [200] S_125 S_141 := hw_142.1
        have aw_144t : AW [19, 20, 21, 22] [200] S S_141 := aw_128t.tr (aw_144.mono (by decide) (by decide))
        have ty_145 := TY.aw ty_133 aw_144 (by decide)
        obtain ⟨bg_146O, bg_146m, bg_146, bg_1461, bg_1462, bg_1463⟩ := hw_142.2
        refine lv_goto (tgt := 256) hx hb dX2_goOn_174 (by decide) ?_
        exact c_vret hx hb hr hK hP hD hS hC hh hpp ⟨aw_144t, ⟨bg_146O, bg_146m, bg_146, tg_dec (Nat.lt_of_lt_of_le (sg_1344 hsp) bg_1461) bg_146.2.2.1 bg_1462⟩⟩ dX2_goOn_256 hlocks
  · skip
    refine lv_iload hx hb dX2_goOn_66 (lv_at hl 1 rfl) ?_
    refine lv_if_ne (tgt := 95) hx hb dX2_goOn_68 (by decide) (fun c_147 => ?_) (fun c_147 => ?_)
    · skip
      refine lv_iload hx hb dX2_goOn_95 (lv_at hl 0 rfl) ?_
      refine lv_iconst (v := 2) hx hb dX2_goOn_97 (by decide) ?_
      refine lv_icmp_ne (tgt := 123) hx hb dX2_goOn_98 (by decide) (fun c_148 => absurd c_30 c_148) (fun c_148 => ?_)
      refine lv_iload hx hb dX2_goOn_101 (lv_at hl 1 rfl) ?_
      refine lv_iconst (v := 1) hx hb dX2_goOn_103 (by decide) ?_
      refine lv_icmp_ne (tgt := 123) hx hb dX2_goOn_104 (by decide) (fun c_149 => ?_) (fun c_149 => ?_)
      · skip
        refine lv_iload hx hb dX2_goOn_123 (lv_at hl 0 rfl) ?_
        refine lv_iconst (v := 3) hx hb dX2_goOn_125 (by decide) ?_
        refine lv_icmp_ne (tgt := 177) hx hb dX2_goOn_126 (by decide) (fun c_150 => ?_) (fun c_150 => absurd c_150 (fun h => absurd (c_30.symm.trans h) (by decide)))
        refine lv_iload hx hb dX2_goOn_177 (lv_at hl 0 rfl) ?_
        refine lv_iconst (v := 4) hx hb dX2_goOn_179 (by decide) ?_
        refine lv_icmp_ne (tgt := 222) hx hb dX2_goOn_180 (by decide) (fun c_151 => ?_) (fun c_151 => absurd c_151 (fun h => absurd (c_30.symm.trans h) (by decide)))
        refine lv_iload hx hb dX2_goOn_222 (lv_at hl 0 rfl) ?_
        refine lv_iconst (v := 3) hx hb dX2_goOn_224 (by decide) ?_
        refine lv_icmp_ne (tgt := 237) hx hb dX2_goOn_225 (by decide) (fun c_152 => ?_) (fun c_152 => absurd c_152 (fun h => absurd (c_30.symm.trans h) (by decide)))
        refine lv_iload hx hb dX2_goOn_237 (lv_at hl 0 rfl) ?_
        refine lv_iconst (v := 4) hx hb dX2_goOn_239 (by decide) ?_
        refine lv_icmp_ne (tgt := 252) hx hb dX2_goOn_240 (by decide) (fun c_153 => ?_) (fun c_153 => absurd c_153 (fun h => absurd (c_30.symm.trans h) (by decide)))
        refine lv_aload_n hx hb dX2_goOn_252 rfl (lv_at hl 5 rfl) ?_
        have hC0 := hC
        refine c_cv (c_runV (As := []) (rest := []) (q0 := 3) (ci := 2) ⟨hx, hb, hml, hown, htu⟩ (l_close_6 l G S_19 T V VP X Y Z O sn hC ty_27 tk_29 H) (cwV 0 htu hU_X2_59 rfl rfl rfl (by decide +kernel) ⟨Nat.le_of_ble_eq_true rfl, Nat.le_of_ble_eq_true rfl⟩) hP hK hD hC hpp cw_3 rfl rfl hl.1 rfl (lv_room (Nat.le_of_ble_eq_true rfl)) dX2_goOn_253) hS hD hh hpp (fun S_155 H locs hw_156 hP hD hS hC hh hs_157 hpp => ?_)
        try dsimp only at hw_156
        have aw_158 : AW [19, 20, 21, 22] [] S_19 S_155 := hw_156.1
        have aw_158t : AW [19, 20, 21, 22] [200] S S_155 := aw_22t.tr (aw_158.mono (by decide) (by decide))
        have ii_159 : S_155.1 200 = nI sn := (aw_158.1 200 (by decide)).trans ii_25
        have ty_160 := TY.aw ty_27 aw_158 (by decide)
        have cl_161 := hw_156.2
        exact c_vret hx hb hr hK hP hD hS hC hh hpp ⟨aw_158t, ⟨O, sn, cl_161, tg_cl (Nat.le_refl _)⟩⟩ dX2_goOn_256 hlocks
      · skip
        refine lv_aload_n hx hb dX2_goOn_107 rfl (lv_at hl 5 rfl) ?_
        refine lv_aload_n hx hb dX2_goOn_108 rfl (lv_at hl 5 rfl) ?_
        refine va_get (D := gD G) (ci := 2) (v := .ref (ga G 2)) (C := RX2) (T := TX2) (N := 6) hx hb htu cu_in2 hown hK hP 3 cw_3 rfl 0 (by decide) (htu _ C_128) (fun _ h9 => h9) rfl dX2_goOn_109 ?_
        refine lv_iload_n hx hb dX2_goOn_112 rfl (lv_at hl 3 rfl) ?_
        have hC0 := hC
        refine c_ci (c_runV (As := [.int r_1]) (rest := [.ref (ga G 3)]) (q0 := 2) (ci := 4) ⟨hx, hb, hml, hown, htu⟩ (y_secondOf l G S_19 r_1 hC  H) (cwV 1 htu hU_X2_98 rfl rfl rfl (by decide +kernel) ⟨Nat.le_of_ble_eq_true rfl, Nat.le_of_ble_eq_true rfl⟩) hP hK hD hC hpp cw_2 rfl rfl hl.1 rfl (lv_room (Nat.le_of_ble_eq_true rfl)) dX2_goOn_113) hS hD hh hpp (fun r_162 S_163 H locs hw_164 hP hD hS hC hh hs_165 hpp => ?_)
        obtain ⟨-, hu9, hw_164⟩ := hw_164
        have hu9 := hu9.symm
        subst hu9
        refine lv_iload_n hx hb dX2_goOn_116 rfl (lv_at hl 2 rfl) ?_
        have hC0 := hC
        refine c_cv (c_runV (As := [.int r_162, .int (nI wd)]) (rest := []) (q0 := 3) (ci := 2) ⟨hx, hb, hml, hown, htu⟩ (l_begin_6 l G S_19 T V VP X Y Z (O + 1) sn wd r_162 hC ty_27 hVP (((aw_22.2.2.1 (by decide)).trans hTS)) tk_29 ((Or.inl hsp)) hwd H) (cwV 2 htu hU_X2_46 rfl rfl rfl (by decide +kernel) ⟨Nat.le_of_ble_eq_true rfl, Nat.le_of_ble_eq_true rfl⟩) hP hK hD hC hpp cw_3 rfl rfl hl.1 rfl (lv_room (Nat.le_of_ble_eq_true rfl)) dX2_goOn_117) hS hD hh hpp (fun S_167 H locs hw_168 hP hD hS hC hh hs_169 hpp => ?_)
        try dsimp only at hw_168
        have aw_170 : AW [19, 20, 21, 22] [200] S_19 S_167 := hw_168.1
        have aw_170t : AW [19, 20, 21, 22] [200] S S_167 := aw_22t.tr (aw_170.mono (by decide) (by decide))
        have ty_171 := TY.aw ty_27 aw_170 (by decide)
        obtain ⟨bg_172O, bg_172m, bg_172, bg_1721, bg_1722, bg_1723⟩ := hw_168.2
        refine lv_goto (tgt := 256) hx hb dX2_goOn_120 (by decide) ?_
        exact c_vret hx hb hr hK hP hD hS hC hh hpp ⟨aw_170t, ⟨bg_172O, bg_172m, bg_172, tg_dec (bg_1723 hsp) bg_172.2.2.1 bg_1722⟩⟩ dX2_goOn_256 hlocks
    · skip
      refine lv_aload_n hx hb dX2_goOn_71 rfl (lv_at hl 5 rfl) ?_
      refine lv_aload_n hx hb dX2_goOn_72 rfl (lv_at hl 5 rfl) ?_
      refine va_get (D := gD G) (ci := 2) (v := .ref (ga G 2)) (C := RX2) (T := TX2) (N := 6) hx hb htu cu_in2 hown hK hP 3 cw_3 rfl 0 (by decide) (htu _ C_128) (fun _ h9 => h9) rfl dX2_goOn_73 ?_
      refine lv_iload_n hx hb dX2_goOn_76 rfl (lv_at hl 3 rfl) ?_
      have hC0 := hC
      refine c_ci (c_runV (As := [.int r_1]) (rest := [.ref (ga G 3)]) (q0 := 2) (ci := 4) ⟨hx, hb, hml, hown, htu⟩ (y_firstOf l G S_19 r_1 hC  H) (cwV 1 htu hU_X2_95 rfl rfl rfl (by decide +kernel) ⟨Nat.le_of_ble_eq_true rfl, Nat.le_of_ble_eq_true rfl⟩) hP hK hD hC hpp cw_2 rfl rfl hl.1 rfl (lv_room (Nat.le_of_ble_eq_true rfl)) dX2_goOn_77) hS hD hh hpp (fun r_173 S_174 H locs hw_175 hP hD hS hC hh hs_176 hpp => ?_)
      obtain ⟨-, hu9, hw_175⟩ := hw_175
      have hu9 := hu9.symm
      subst hu9
      refine lv_iload_n hx hb dX2_goOn_80 rfl (lv_at hl 2 rfl) ?_
      refine lv_if_ne (tgt := 88) hx hb dX2_goOn_81 (by decide) (fun c_177 => ?_) (fun c_177 => ?_)
      · skip
        have nc_177 : ¬ wd = 0 := fun h9 => c_177 ((nI_eq (a := wd) (b := 0) (by omega) (by omega)).mpr h9)
        refine lv_iconst (v := 0) hx hb dX2_goOn_88 (by decide) ?_
        have hC0 := hC
        refine c_cv (c_runV (As := [.int r_173, .int 0]) (rest := []) (q0 := 3) (ci := 2) ⟨hx, hb, hml, hown, htu⟩ (l_begin_6 l G S_19 T V VP X Y Z (O + 1) sn 0 r_173 hC ty_27 hVP (((aw_22.2.2.1 (by decide)).trans hTS)) tk_29 ((Or.inl hsp)) ((by decide)) H) (cwV 2 htu hU_X2_46 rfl rfl rfl (by decide +kernel) ⟨Nat.le_of_ble_eq_true rfl, Nat.le_of_ble_eq_true rfl⟩) hP hK hD hC hpp cw_3 rfl rfl hl.1 rfl (lv_room (Nat.le_of_ble_eq_true rfl)) dX2_goOn_89) hS hD hh hpp (fun S_179 H locs hw_180 hP hD hS hC hh hs_181 hpp => ?_)
        try dsimp only at hw_180
        have aw_182 : AW [19, 20, 21, 22] [200] S_19 S_179 := hw_180.1
        have aw_182t : AW [19, 20, 21, 22] [200] S S_179 := aw_22t.tr (aw_182.mono (by decide) (by decide))
        have ty_183 := TY.aw ty_27 aw_182 (by decide)
        obtain ⟨bg_184O, bg_184m, bg_184, bg_1841, bg_1842, bg_1843⟩ := hw_180.2
        refine lv_goto (tgt := 256) hx hb dX2_goOn_92 (by decide) ?_
        exact c_vret hx hb hr hK hP hD hS hC hh hpp ⟨aw_182t, ⟨bg_184O, bg_184m, bg_184, tg_dec (bg_1843 hsp) bg_184.2.2.1 bg_1842⟩⟩ dX2_goOn_256 hlocks
      · skip
        have nc_177 : wd = 0 := (nI_eq (a := wd) (b := 0) (by omega) (by omega)).mp c_177
        refine lv_iconst (v := 1) hx hb dX2_goOn_84 (by decide) ?_
        refine lv_goto (tgt := 89) hx hb dX2_goOn_85 (by decide) ?_
        have hC0 := hC
        refine c_cv (c_runV (As := [.int r_173, .int 1]) (rest := []) (q0 := 3) (ci := 2) ⟨hx, hb, hml, hown, htu⟩ (l_begin_6 l G S_19 T V VP X Y Z (O + 1) sn 1 r_173 hC ty_27 hVP (((aw_22.2.2.1 (by decide)).trans hTS)) tk_29 ((Or.inl hsp)) ((by decide)) H) (cwV 2 htu hU_X2_46 rfl rfl rfl (by decide +kernel) ⟨Nat.le_of_ble_eq_true rfl, Nat.le_of_ble_eq_true rfl⟩) hP hK hD hC hpp cw_3 rfl rfl hl.1 rfl (lv_room (Nat.le_of_ble_eq_true rfl)) dX2_goOn_89) hS hD hh hpp (fun S_186 H locs hw_187 hP hD hS hC hh hs_188 hpp => ?_)
        try dsimp only at hw_187
        have aw_189 : AW [19, 20, 21, 22] [200] S_19 S_186 := hw_187.1
        have aw_189t : AW [19, 20, 21, 22] [200] S S_186 := aw_22t.tr (aw_189.mono (by decide) (by decide))
        have ty_190 := TY.aw ty_27 aw_189 (by decide)
        obtain ⟨bg_191O, bg_191m, bg_191, bg_1911, bg_1912, bg_1913⟩ := hw_187.2
        refine lv_goto (tgt := 256) hx hb dX2_goOn_92 (by decide) ?_
        exact c_vret hx hb hr hK hP hD hS hC hh hpp ⟨aw_189t, ⟨bg_191O, bg_191m, bg_191, tg_dec (bg_1913 hsp) bg_191.2.2.1 bg_1912⟩⟩ dX2_goOn_256 hlocks

