theorem dX6_putValue_0 : decode cX6_putValue 0 = .ok (.aload_n 0, 1) := by decide +kernel
theorem dX6_putValue_1 : decode cX6_putValue 1 = .ok (.getfield 16, 3) := by decide +kernel
theorem dX6_putValue_4 : decode cX6_putValue 4 = .ok (.invokevirtual 150, 3) := by decide +kernel
theorem dX6_putValue_7 : decode cX6_putValue 7 = .ok (.ifCond .ne 10, 3) := by decide +kernel
theorem dX6_putValue_17 : decode cX6_putValue 17 = .ok (.return_, 1) := by decide +kernel
theorem dX6_putValue_10 : decode cX6_putValue 10 = .ok (.iload_n 2, 1) := by decide +kernel
theorem dX6_putValue_11 : decode cX6_putValue 11 = .ok (.sipush 200, 3) := by decide +kernel
theorem dX6_putValue_14 : decode cX6_putValue 14 = .ok (.if_icmp .le 4, 3) := by decide +kernel
theorem dX6_putValue_18 : decode cX6_putValue 18 = .ok (.aload_n 0, 1) := by decide +kernel
theorem dX6_putValue_19 : decode cX6_putValue 19 = .ok (.getfield 27, 3) := by decide +kernel
theorem dX6_putValue_22 : decode cX6_putValue 22 = .ok (.iload_n 1, 1) := by decide +kernel
theorem dX6_putValue_23 : decode cX6_putValue 23 = .ok (.invokevirtual 131, 3) := by decide +kernel
theorem dX6_putValue_26 : decode cX6_putValue 26 = .ok (.istore_n 3, 1) := by decide +kernel
theorem dX6_putValue_27 : decode cX6_putValue 27 = .ok (.aload_n 0, 1) := by decide +kernel
theorem dX6_putValue_28 : decode cX6_putValue 28 = .ok (.getfield 23, 3) := by decide +kernel
theorem dX6_putValue_31 : decode cX6_putValue 31 = .ok (.iload_n 1, 1) := by decide +kernel
theorem dX6_putValue_32 : decode cX6_putValue 32 = .ok (.invokevirtual 131, 3) := by decide +kernel
theorem dX6_putValue_35 : decode cX6_putValue 35 = .ok (.tableswitch 64 0 2 #[25, 34, 54], 25) := by decide +kernel
theorem dX6_putValue_60 : decode cX6_putValue 60 = .ok (.aload_n 0, 1) := by decide +kernel
theorem dX6_putValue_61 : decode cX6_putValue 61 = .ok (.getfield 16, 3) := by decide +kernel
theorem dX6_putValue_64 : decode cX6_putValue 64 = .ok (.iload_n 3, 1) := by decide +kernel
theorem dX6_putValue_65 : decode cX6_putValue 65 = .ok (.invokevirtual 154, 3) := by decide +kernel
theorem dX6_putValue_68 : decode cX6_putValue 68 = .ok (.return_, 1) := by decide +kernel
theorem dX6_putValue_69 : decode cX6_putValue 69 = .ok (.aload_n 0, 1) := by decide +kernel
theorem dX6_putValue_70 : decode cX6_putValue 70 = .ok (.getfield 16, 3) := by decide +kernel
theorem dX6_putValue_73 : decode cX6_putValue 73 = .ok (.iload_n 3, 1) := by decide +kernel
theorem dX6_putValue_74 : decode cX6_putValue 74 = .ok (.iconst 1, 1) := by decide +kernel
theorem dX6_putValue_75 : decode cX6_putValue 75 = .ok (.if_icmp .ne 8, 3) := by decide +kernel
theorem dX6_putValue_83 : decode cX6_putValue 83 = .ok (.bipush 110, 2) := by decide +kernel
theorem dX6_putValue_85 : decode cX6_putValue 85 = .ok (.invokevirtual 157, 3) := by decide +kernel
theorem dX6_putValue_88 : decode cX6_putValue 88 = .ok (.return_, 1) := by decide +kernel
theorem dX6_putValue_78 : decode cX6_putValue 78 = .ok (.bipush 121, 2) := by decide +kernel
theorem dX6_putValue_80 : decode cX6_putValue 80 = .ok (.goto 5, 3) := by decide +kernel
theorem dX6_putValue_89 : decode cX6_putValue 89 = .ok (.aload_n 0, 1) := by decide +kernel
theorem dX6_putValue_90 : decode cX6_putValue 90 = .ok (.getfield 16, 3) := by decide +kernel
theorem dX6_putValue_93 : decode cX6_putValue 93 = .ok (.bipush 102, 2) := by decide +kernel
theorem dX6_putValue_95 : decode cX6_putValue 95 = .ok (.invokevirtual 157, 3) := by decide +kernel
theorem dX6_putValue_98 : decode cX6_putValue 98 = .ok (.return_, 1) := by decide +kernel
theorem dX6_putValue_99 : decode cX6_putValue 99 = .ok (.aload_n 0, 1) := by decide +kernel
theorem dX6_putValue_100 : decode cX6_putValue 100 = .ok (.getfield 16, 3) := by decide +kernel
theorem dX6_putValue_103 : decode cX6_putValue 103 = .ok (.bipush 123, 2) := by decide +kernel
theorem dX6_putValue_105 : decode cX6_putValue 105 = .ok (.invokevirtual 157, 3) := by decide +kernel
theorem dX6_putValue_108 : decode cX6_putValue 108 = .ok (.aload_n 0, 1) := by decide +kernel
theorem dX6_putValue_109 : decode cX6_putValue 109 = .ok (.getfield 55, 3) := by decide +kernel
theorem dX6_putValue_112 : decode cX6_putValue 112 = .ok (.iload_n 3, 1) := by decide +kernel
theorem dX6_putValue_113 : decode cX6_putValue 113 = .ok (.invokevirtual 141, 3) := by decide +kernel
theorem dX6_putValue_116 : decode cX6_putValue 116 = .ok (.istore 4, 2) := by decide +kernel
theorem dX6_putValue_118 : decode cX6_putValue 118 = .ok (.iconst 0, 1) := by decide +kernel
theorem dX6_putValue_119 : decode cX6_putValue 119 = .ok (.istore 5, 2) := by decide +kernel
theorem dX6_putValue_121 : decode cX6_putValue 121 = .ok (.iload 5, 2) := by decide +kernel
theorem dX6_putValue_123 : decode cX6_putValue 123 = .ok (.iload 4, 2) := by decide +kernel
theorem dX6_putValue_125 : decode cX6_putValue 125 = .ok (.if_icmp .ge 61, 3) := by decide +kernel
theorem dX6_putValue_186 : decode cX6_putValue 186 = .ok (.aload_n 0, 1) := by decide +kernel
theorem dX6_putValue_187 : decode cX6_putValue 187 = .ok (.getfield 16, 3) := by decide +kernel
theorem dX6_putValue_190 : decode cX6_putValue 190 = .ok (.bipush 125, 2) := by decide +kernel
theorem dX6_putValue_192 : decode cX6_putValue 192 = .ok (.invokevirtual 157, 3) := by decide +kernel
theorem dX6_putValue_195 : decode cX6_putValue 195 = .ok (.return_, 1) := by decide +kernel
theorem dX6_putValue_128 : decode cX6_putValue 128 = .ok (.aload_n 0, 1) := by decide +kernel
theorem dX6_putValue_129 : decode cX6_putValue 129 = .ok (.getfield 16, 3) := by decide +kernel
theorem dX6_putValue_132 : decode cX6_putValue 132 = .ok (.invokevirtual 150, 3) := by decide +kernel
theorem dX6_putValue_135 : decode cX6_putValue 135 = .ok (.ifCond .ne 51, 3) := by decide +kernel
theorem dX6_putValue_138 : decode cX6_putValue 138 = .ok (.aload_n 0, 1) := by decide +kernel
theorem dX6_putValue_139 : decode cX6_putValue 139 = .ok (.getfield 16, 3) := by decide +kernel
theorem dX6_putValue_142 : decode cX6_putValue 142 = .ok (.aload_n 0, 1) := by decide +kernel
theorem dX6_putValue_143 : decode cX6_putValue 143 = .ok (.getfield 55, 3) := by decide +kernel
theorem dX6_putValue_146 : decode cX6_putValue 146 = .ok (.iload_n 3, 1) := by decide +kernel
theorem dX6_putValue_147 : decode cX6_putValue 147 = .ok (.iload 5, 2) := by decide +kernel
theorem dX6_putValue_149 : decode cX6_putValue 149 = .ok (.invokevirtual 161, 3) := by decide +kernel
theorem dX6_putValue_152 : decode cX6_putValue 152 = .ok (.invokevirtual 164, 3) := by decide +kernel
theorem dX6_putValue_155 : decode cX6_putValue 155 = .ok (.aload_n 0, 1) := by decide +kernel
theorem dX6_putValue_156 : decode cX6_putValue 156 = .ok (.aload_n 0, 1) := by decide +kernel
theorem dX6_putValue_157 : decode cX6_putValue 157 = .ok (.getfield 33, 3) := by decide +kernel
theorem dX6_putValue_160 : decode cX6_putValue 160 = .ok (.aload_n 0, 1) := by decide +kernel
theorem dX6_putValue_161 : decode cX6_putValue 161 = .ok (.getfield 30, 3) := by decide +kernel
theorem dX6_putValue_164 : decode cX6_putValue 164 = .ok (.iload_n 1, 1) := by decide +kernel
theorem dX6_putValue_165 : decode cX6_putValue 165 = .ok (.invokevirtual 131, 3) := by decide +kernel
theorem dX6_putValue_168 : decode cX6_putValue 168 = .ok (.iload 5, 2) := by decide +kernel
theorem dX6_putValue_170 : decode cX6_putValue 170 = .ok (.iadd, 1) := by decide +kernel
theorem dX6_putValue_171 : decode cX6_putValue 171 = .ok (.invokevirtual 131, 3) := by decide +kernel
theorem dX6_putValue_174 : decode cX6_putValue 174 = .ok (.iload_n 2, 1) := by decide +kernel
theorem dX6_putValue_175 : decode cX6_putValue 175 = .ok (.iconst 1, 1) := by decide +kernel
theorem dX6_putValue_176 : decode cX6_putValue 176 = .ok (.iadd, 1) := by decide +kernel
theorem dX6_putValue_177 : decode cX6_putValue 177 = .ok (.invokevirtual 66, 3) := by decide +kernel
theorem dX6_putValue_180 : decode cX6_putValue 180 = .ok (.iinc 5 1, 3) := by decide +kernel
theorem dX6_putValue_183 : decode cX6_putValue 183 = .ok (.goto (-62), 3) := by decide +kernel
theorem dX6_startAnew_0 : decode cX6_startAnew 0 = .ok (.aload_n 0, 1) := by decide +kernel
theorem dX6_startAnew_1 : decode cX6_startAnew 1 = .ok (.getfield 23, 3) := by decide +kernel
theorem dX6_startAnew_4 : decode cX6_startAnew 4 = .ok (.iconst 0, 1) := by decide +kernel
theorem dX6_startAnew_5 : decode cX6_startAnew 5 = .ok (.invokevirtual 70, 3) := by decide +kernel
theorem dX6_startAnew_8 : decode cX6_startAnew 8 = .ok (.aload_n 0, 1) := by decide +kernel
theorem dX6_startAnew_9 : decode cX6_startAnew 9 = .ok (.getfield 27, 3) := by decide +kernel
theorem dX6_startAnew_12 : decode cX6_startAnew 12 = .ok (.iconst 0, 1) := by decide +kernel
theorem dX6_startAnew_13 : decode cX6_startAnew 13 = .ok (.invokevirtual 70, 3) := by decide +kernel
theorem dX6_startAnew_16 : decode cX6_startAnew 16 = .ok (.aload_n 0, 1) := by decide +kernel
theorem dX6_startAnew_17 : decode cX6_startAnew 17 = .ok (.getfield 30, 3) := by decide +kernel
theorem dX6_startAnew_20 : decode cX6_startAnew 20 = .ok (.iconst 0, 1) := by decide +kernel
theorem dX6_startAnew_21 : decode cX6_startAnew 21 = .ok (.invokevirtual 70, 3) := by decide +kernel
theorem dX6_startAnew_24 : decode cX6_startAnew 24 = .ok (.aload_n 0, 1) := by decide +kernel
theorem dX6_startAnew_25 : decode cX6_startAnew 25 = .ok (.getfield 33, 3) := by decide +kernel
theorem dX6_startAnew_28 : decode cX6_startAnew 28 = .ok (.iconst 0, 1) := by decide +kernel
theorem dX6_startAnew_29 : decode cX6_startAnew 29 = .ok (.invokevirtual 70, 3) := by decide +kernel
theorem dX6_startAnew_32 : decode cX6_startAnew 32 = .ok (.aload_n 0, 1) := by decide +kernel
theorem dX6_startAnew_33 : decode cX6_startAnew 33 = .ok (.getfield 36, 3) := by decide +kernel
theorem dX6_startAnew_36 : decode cX6_startAnew 36 = .ok (.iconst 0, 1) := by decide +kernel
theorem dX6_startAnew_37 : decode cX6_startAnew 37 = .ok (.invokevirtual 70, 3) := by decide +kernel
theorem dX6_startAnew_40 : decode cX6_startAnew 40 = .ok (.aload_n 0, 1) := by decide +kernel
theorem dX6_startAnew_41 : decode cX6_startAnew 41 = .ok (.getfield 39, 3) := by decide +kernel
theorem dX6_startAnew_44 : decode cX6_startAnew 44 = .ok (.iconst 0, 1) := by decide +kernel
theorem dX6_startAnew_45 : decode cX6_startAnew 45 = .ok (.invokevirtual 70, 3) := by decide +kernel
theorem dX6_startAnew_48 : decode cX6_startAnew 48 = .ok (.aload_n 0, 1) := by decide +kernel
theorem dX6_startAnew_49 : decode cX6_startAnew 49 = .ok (.getfield 42, 3) := by decide +kernel
theorem dX6_startAnew_52 : decode cX6_startAnew 52 = .ok (.iconst 0, 1) := by decide +kernel
theorem dX6_startAnew_53 : decode cX6_startAnew 53 = .ok (.invokevirtual 70, 3) := by decide +kernel
theorem dX6_startAnew_56 : decode cX6_startAnew 56 = .ok (.aload_n 0, 1) := by decide +kernel
theorem dX6_startAnew_57 : decode cX6_startAnew 57 = .ok (.getfield 45, 3) := by decide +kernel
theorem dX6_startAnew_60 : decode cX6_startAnew 60 = .ok (.iconst 0, 1) := by decide +kernel
theorem dX6_startAnew_61 : decode cX6_startAnew 61 = .ok (.invokevirtual 70, 3) := by decide +kernel
theorem dX6_startAnew_64 : decode cX6_startAnew 64 = .ok (.aload_n 0, 1) := by decide +kernel
theorem dX6_startAnew_65 : decode cX6_startAnew 65 = .ok (.getfield 16, 3) := by decide +kernel
theorem dX6_startAnew_68 : decode cX6_startAnew 68 = .ok (.invokevirtual 73, 3) := by decide +kernel
theorem dX6_startAnew_71 : decode cX6_startAnew 71 = .ok (.aload_n 0, 1) := by decide +kernel
theorem dX6_startAnew_72 : decode cX6_startAnew 72 = .ok (.iload_n 1, 1) := by decide +kernel
theorem dX6_startAnew_73 : decode cX6_startAnew 73 = .ok (.putfield 76, 3) := by decide +kernel
theorem dX6_startAnew_76 : decode cX6_startAnew 76 = .ok (.aload_n 0, 1) := by decide +kernel
theorem dX6_startAnew_77 : decode cX6_startAnew 77 = .ok (.iconst 0, 1) := by decide +kernel
theorem dX6_startAnew_78 : decode cX6_startAnew 78 = .ok (.putfield 79, 3) := by decide +kernel
theorem dX6_startAnew_81 : decode cX6_startAnew 81 = .ok (.aload_n 0, 1) := by decide +kernel
theorem dX6_startAnew_82 : decode cX6_startAnew 82 = .ok (.bipush (-9), 2) := by decide +kernel
theorem dX6_startAnew_84 : decode cX6_startAnew 84 = .ok (.putfield 48, 3) := by decide +kernel
theorem dX6_startAnew_87 : decode cX6_startAnew 87 = .ok (.return_, 1) := by decide +kernel
theorem dX6_workProgram_0 : decode cX6_workProgram 0 = .ok (.aload_n 0, 1) := by decide +kernel
theorem dX6_workProgram_1 : decode cX6_workProgram 1 = .ok (.iload_n 2, 1) := by decide +kernel
theorem dX6_workProgram_2 : decode cX6_workProgram 2 = .ok (.invokevirtual 59, 3) := by decide +kernel
theorem dX6_workProgram_5 : decode cX6_workProgram 5 = .ok (.aload_n 0, 1) := by decide +kernel
theorem dX6_workProgram_6 : decode cX6_workProgram 6 = .ok (.iload_n 1, 1) := by decide +kernel
theorem dX6_workProgram_7 : decode cX6_workProgram 7 = .ok (.bipush (-9), 2) := by decide +kernel
theorem dX6_workProgram_9 : decode cX6_workProgram 9 = .ok (.iconst 1, 1) := by decide +kernel
theorem dX6_workProgram_10 : decode cX6_workProgram 10 = .ok (.invokevirtual 62, 3) := by decide +kernel
theorem dX6_workProgram_13 : decode cX6_workProgram 13 = .ok (.istore_n 3, 1) := by decide +kernel
theorem dX6_workProgram_14 : decode cX6_workProgram 14 = .ok (.iload_n 3, 1) := by decide +kernel
theorem dX6_workProgram_15 : decode cX6_workProgram 15 = .ok (.ifCond .lt 17, 3) := by decide +kernel
theorem dX6_workProgram_32 : decode cX6_workProgram 32 = .ok (.aload_n 0, 1) := by decide +kernel
theorem dX6_workProgram_33 : decode cX6_workProgram 33 = .ok (.iload_n 3, 1) := by decide +kernel
theorem dX6_workProgram_34 : decode cX6_workProgram 34 = .ok (.bipush (-6), 2) := by decide +kernel
theorem dX6_workProgram_36 : decode cX6_workProgram 36 = .ok (.if_icmp .ne 7, 3) := by decide +kernel
theorem dX6_workProgram_43 : decode cX6_workProgram 43 = .ok (.iconst 1, 1) := by decide +kernel
theorem dX6_workProgram_44 : decode cX6_workProgram 44 = .ok (.putfield 52, 3) := by decide +kernel
theorem dX6_workProgram_47 : decode cX6_workProgram 47 = .ok (.aload_n 0, 1) := by decide +kernel
theorem dX6_workProgram_48 : decode cX6_workProgram 48 = .ok (.getfield 52, 3) := by decide +kernel
theorem dX6_workProgram_51 : decode cX6_workProgram 51 = .ok (.ireturn, 1) := by decide +kernel
theorem dX6_workProgram_39 : decode cX6_workProgram 39 = .ok (.iconst 2, 1) := by decide +kernel
theorem dX6_workProgram_40 : decode cX6_workProgram 40 = .ok (.goto 4, 3) := by decide +kernel
theorem dX6_workProgram_18 : decode cX6_workProgram 18 = .ok (.aload_n 0, 1) := by decide +kernel
theorem dX6_workProgram_19 : decode cX6_workProgram 19 = .ok (.iconst 0, 1) := by decide +kernel
theorem dX6_workProgram_20 : decode cX6_workProgram 20 = .ok (.putfield 52, 3) := by decide +kernel
theorem dX6_workProgram_23 : decode cX6_workProgram 23 = .ok (.aload_n 0, 1) := by decide +kernel
theorem dX6_workProgram_24 : decode cX6_workProgram 24 = .ok (.iload_n 3, 1) := by decide +kernel
theorem dX6_workProgram_25 : decode cX6_workProgram 25 = .ok (.iconst 1, 1) := by decide +kernel
theorem dX6_workProgram_26 : decode cX6_workProgram 26 = .ok (.invokevirtual 66, 3) := by decide +kernel
theorem dX6_workProgram_29 : decode cX6_workProgram 29 = .ok (.goto 18, 3) := by decide +kernel
def cPutAt (fu : Nat) : Prop := ∀ (l : Launch) (G : cG) (S : cS) (sn : Nat) (N : Nat) (dp : Nat) (x : Int32) (hC : CL S) (hn : S.1 202 = nI sn) (hcap : sn ≤ 200) (hT : TJ S N) (hdp : dp + fu = 201) (Hs : Heap), Met l yX6_putValue (wC yX6_putValue cX6_putValue 6 none) (cRm S (fu + 8) (30 * fu + 200)) (cPc G S Hs [.ref (ga G 5), .int x, .int (nI dp)]) (cQv G S Hs (fun u => AW [] [202] S u ∧ (∃ sm, u.1 202 = nI sm ∧ sm ≤ 200))) (CC - PT S) (12 * (CC - PT S)) (cA G S Hs.size)

set_option maxHeartbeats 4000000 in
set_option maxRecDepth 100000 in
/-- putValue, too deep -/
theorem w_put_0 (l : Launch) (G : cG) (S : cS) (sn : Nat) (N : Nat) (dp : Nat) (x : Int32) (hC : CL S) (hn : S.1 202 = nI sn) (hcap : sn ≤ 200) (hT : TJ S N) (hdp : dp + 0 = 201) (Hs : Heap) : Met l yX6_putValue (wC yX6_putValue cX6_putValue 6 none) (cRm S (0 + 8) (30 * 0 + 200)) (cPc G S Hs [.ref (ga G 5), .int x, .int (nI dp)]) (cQv G S Hs (fun u => AW [] [202] S u ∧ (∃ sm, u.1 202 = nI sm ∧ sm ≤ 200))) (CC - PT S) (12 * (CC - PT S)) (cA G S Hs.size) := by
  refine Met.ofW (cc := cX6_putValue) (maxL := 6) (ret := none) (by decide) rfl ?_
  intro p e s m args below meth c s₁ B hml hv
  obtain ⟨rfl, hsz, hP, hK, hD0, -⟩ := hv
  have hx := B.exec
  have hb := B.bytes
  have hr := B.returns
  have htu : ∀ w ∈ CU, w.before _ s = true := fun w h => atoms_spec (ws := (wC yX6_putValue cX6_putValue 6 none)) B.pre w (List.mem_cons_of_mem _ h)
  have hown : s.vm.findClass RX6 = some m.cls := findClass_of_methodNamed B.named
  have hlocks := B.notSynchronized
  subst hsz
  have hD : cD (cA G S s.heap.size) G S := cD_self hD0
  have hl := lv_entry ([.ref (ga G 5), .int x, .int (nI dp)]) (n := 6) (Nat.le_of_ble_eq_true rfl)
  rw [lg_entry_eq]
  generalize (lg_sl ([.ref (ga G 5), .int x, .int (nI dp)]) ++ List.replicate (6 - (lg_sl ([.ref (ga G 5), .int x, .int (nI dp)])).length) Slot.unset).toArray = ls at hl ⊢
  have hl : lv_has ls 6 [(0, .ref (ga G 5)), (1, .int x), (2, .int (nI dp))] := hl
  obtain ⟨H, hHe⟩ : ∃ H : Heap, H = s.heap := ⟨_, rfl⟩
  rw [← hHe] at hP
  have hS : va_S (cA G S s.heap.size) s.heap H [] := by rw [hHe]; exact va_S.rf
  have hh : HS S S := HS.rf
  have hpp : PT S ≤ PT S := Nat.le_refl _
  have hB9 := hC.1
  refine W.heq hHe ?_
  refine c_ent (S := S) ?_
  refine lv_aload_n hx hb dX6_putValue_0 rfl (lv_at hl 0 rfl) ?_
  refine va_get (D := gD G) (ci := 6) (v := .ref (ga G 8)) (C := RX6) (T := TX6) (N := 14) hx hb htu cu_in6 hown hK hP 5 cw_5 rfl 1 (by decide) (htu _ C_150) (fun _ h9 => h9) rfl dX6_putValue_1 ?_
  have hC0 := hC
  refine c_ci (c_runV (As := []) (rest := []) (q0 := 8) (ci := 1) ⟨hx, hb, hml, hown, htu⟩ (s_isFull_8 l G S sn hC hn hcap H) (cwV 0 htu hU_X6_150 rfl rfl rfl (by decide +kernel) ⟨show 0 + 1 ≤ 0 + 8 by omega, show 8 + (1 + 11) + 0 ≤ 30 * 0 + 200 by omega⟩) hP hK hD hC hpp cw_8 rfl rfl hl.1 rfl (lv_room (Nat.le_of_ble_eq_true rfl)) dX6_putValue_4) hS hD hh hpp (fun r_1 S_2 H locs hw_3 hP hD hS hC hh hs_4 hpp => ?_)
  obtain ⟨-, hu9, hw_3⟩ := hw_3
  have hu9 := hu9.symm
  subst hu9
  clear hw_3
  refine lv_if_ne (tgt := 17) hx hb dX6_putValue_7 (by decide) (fun c_5 => ?_) (fun c_5 => ?_)
  · skip
    exact c_vret hx hb hr hK hP hD hS hC hh hpp ⟨AW.rf, ⟨_, hn, hcap⟩⟩ dX6_putValue_17 hlocks
  · skip
    refine lv_iload_n hx hb dX6_putValue_10 rfl (lv_at hl 2 rfl) ?_
    refine lv_sipush (v := 200) hx hb dX6_putValue_11 (by decide) ?_
    refine lv_icmp_le (tgt := 18) hx hb dX6_putValue_14 (by decide) (fun c_6 => absurd c_6 (fun h => by have h2 := (nI_leI (a := dp) (b := 200) (by omega) (by omega)).mp h; omega)) (fun c_6 => ?_)
    exact c_vret hx hb hr hK hP hD hS hC hh hpp ⟨AW.rf, ⟨_, hn, hcap⟩⟩ dX6_putValue_17 hlocks

set_option maxHeartbeats 4000000 in
set_option maxRecDepth 100000 in
/-- putValue -/
theorem w_put_s (l : Launch) (G : cG) (S : cS) (fu : Nat) (sn : Nat) (N : Nat) (dp : Nat) (x : Int32) (hC : CL S) (ih : cPutAt fu) (hn : S.1 202 = nI sn) (hcap : sn ≤ 200) (hT : TJ S N) (hdp : dp + (fu + 1) = 201) (Hs : Heap) : Met l yX6_putValue (wC yX6_putValue cX6_putValue 6 none) (cRm S ((fu + 1) + 8) (30 * (fu + 1) + 200)) (cPc G S Hs [.ref (ga G 5), .int x, .int (nI dp)]) (cQv G S Hs (fun u => AW [] [202] S u ∧ (∃ sm, u.1 202 = nI sm ∧ sm ≤ 200))) (CC - PT S) (12 * (CC - PT S)) (cA G S Hs.size) := by
  refine Met.ofW (cc := cX6_putValue) (maxL := 6) (ret := none) (by decide) rfl ?_
  intro p e s m args below meth c s₁ B hml hv
  obtain ⟨rfl, hsz, hP, hK, hD0, -⟩ := hv
  have hx := B.exec
  have hb := B.bytes
  have hr := B.returns
  have htu : ∀ w ∈ CU, w.before _ s = true := fun w h => atoms_spec (ws := (wC yX6_putValue cX6_putValue 6 none)) B.pre w (List.mem_cons_of_mem _ h)
  have hown : s.vm.findClass RX6 = some m.cls := findClass_of_methodNamed B.named
  have hlocks := B.notSynchronized
  subst hsz
  have hD : cD (cA G S s.heap.size) G S := cD_self hD0
  have hl := lv_entry ([.ref (ga G 5), .int x, .int (nI dp)]) (n := 6) (Nat.le_of_ble_eq_true rfl)
  rw [lg_entry_eq]
  generalize (lg_sl ([.ref (ga G 5), .int x, .int (nI dp)]) ++ List.replicate (6 - (lg_sl ([.ref (ga G 5), .int x, .int (nI dp)])).length) Slot.unset).toArray = ls at hl ⊢
  have hl : lv_has ls 6 [(0, .ref (ga G 5)), (1, .int x), (2, .int (nI dp))] := hl
  obtain ⟨H, hHe⟩ : ∃ H : Heap, H = s.heap := ⟨_, rfl⟩
  rw [← hHe] at hP
  have hS : va_S (cA G S s.heap.size) s.heap H [] := by rw [hHe]; exact va_S.rf
  have hh : HS S S := HS.rf
  have hpp : PT S ≤ PT S := Nat.le_refl _
  have hB9 := hC.1
  refine W.heq hHe ?_
  refine c_ent (S := S) ?_
  refine lv_aload_n hx hb dX6_putValue_0 rfl (lv_at hl 0 rfl) ?_
  refine va_get (D := gD G) (ci := 6) (v := .ref (ga G 8)) (C := RX6) (T := TX6) (N := 14) hx hb htu cu_in6 hown hK hP 5 cw_5 rfl 1 (by decide) (htu _ C_150) (fun _ h9 => h9) rfl dX6_putValue_1 ?_
  have hC0 := hC
  refine c_ci (c_runV (As := []) (rest := []) (q0 := 8) (ci := 1) ⟨hx, hb, hml, hown, htu⟩ (s_isFull_8 l G S sn hC hn hcap H) (cwV 0 htu hU_X6_150 rfl rfl rfl (by decide +kernel) ⟨show 0 + 1 ≤ (fu + 1) + 8 by omega, show 8 + (1 + 11) + 0 ≤ 30 * (fu + 1) + 200 by omega⟩) hP hK hD hC hpp cw_8 rfl rfl hl.1 rfl (lv_room (Nat.le_of_ble_eq_true rfl)) dX6_putValue_4) hS hD hh hpp (fun r_1 S_2 H locs hw_3 hP hD hS hC hh hs_4 hpp => ?_)
  obtain ⟨-, hu9, hw_3⟩ := hw_3
  have hu9 := hu9.symm
  subst hu9
  clear hw_3
  refine lv_if_ne (tgt := 17) hx hb dX6_putValue_7 (by decide) (fun c_5 => ?_) (fun c_5 => ?_)
  · skip
    exact c_vret hx hb hr hK hP hD hS hC hh hpp ⟨AW.rf, ⟨_, hn, hcap⟩⟩ dX6_putValue_17 hlocks
  · skip
    refine lv_iload_n hx hb dX6_putValue_10 rfl (lv_at hl 2 rfl) ?_
    refine lv_sipush (v := 200) hx hb dX6_putValue_11 (by decide) ?_
    refine lv_icmp_le (tgt := 18) hx hb dX6_putValue_14 (by decide) (fun c_6 => ?_) (fun c_6 => absurd ((nI_leI (a := dp) (b := 200) (by omega) (by omega)).mpr (by omega)) c_6)
    refine lv_aload_n hx hb dX6_putValue_18 rfl (lv_at hl 0 rfl) ?_
    refine va_get (D := gD G) (ci := 6) (v := .ref (kH S 28)) (C := RX6) (T := TX6) (N := 14) hx hb htu cu_in6 hown hK hP 5 cw_5 rfl 3 (by decide) (htu _ C_153) (fun _ h9 => h9) rfl dX6_putValue_19 ?_
    refine lv_iload_n hx hb dX6_putValue_22 rfl (lv_at hl 1 rfl) ?_
    have hC0 := hC
    refine c_ci (c_runV (As := [.int x]) (rest := []) (q0 := (2 * 28 + 13)) (ci := 0) ⟨hx, hb, hml, hown, htu⟩ (c_getA l G S 28 (lt35 (by decide)) hC (kH S 28) rfl x H) (cwV 1 htu hU_X6_131 rfl rfl rfl (by decide +kernel) ⟨show 0 + 1 ≤ (fu + 1) + 8 by omega, show 8 + (2 + 11) + 0 ≤ 30 * (fu + 1) + 200 by omega⟩) hP hK hD hC hpp (c_hd rfl (cw_row (lt35 (by decide)))) rfl rfl hl.1 rfl (lv_room (Nat.le_of_ble_eq_true rfl)) dX6_putValue_23) hS hD hh hpp (fun r_7 S_8 H locs hw_9 hP hD hS hC hh hs_10 hpp => ?_)
    obtain ⟨hu9, hw_9⟩ := hw_9
    have hu9 := hu9.symm
    subst hu9
    refine lv_istore_n (lv' := [(3, .int r_7), (0, .ref (ga G 5)), (1, .int x), (2, .int (nI dp))]) hx hb dX6_putValue_26 rfl hl (by decide) rfl (fun ls hl => ?_)
    refine lv_aload_n hx hb dX6_putValue_27 rfl (lv_at hl 1 rfl) ?_
    refine va_get (D := gD G) (ci := 6) (v := .ref (kH S 27)) (C := RX6) (T := TX6) (N := 14) hx hb htu cu_in6 hown hK hP 5 cw_5 rfl 2 (by decide) (htu _ C_152) (fun _ h9 => h9) rfl dX6_putValue_28 ?_
    refine lv_iload_n hx hb dX6_putValue_31 rfl (lv_at hl 2 rfl) ?_
    have hC0 := hC
    refine c_ci (c_runV (As := [.int x]) (rest := []) (q0 := (2 * 27 + 13)) (ci := 0) ⟨hx, hb, hml, hown, htu⟩ (c_getA l G S 27 (lt35 (by decide)) hC (kH S 27) rfl x H) (cwV 1 htu hU_X6_131 rfl rfl rfl (by decide +kernel) ⟨show 0 + 1 ≤ (fu + 1) + 8 by omega, show 8 + (2 + 11) + 0 ≤ 30 * (fu + 1) + 200 by omega⟩) hP hK hD hC hpp (c_hd rfl (cw_row (lt35 (by decide)))) rfl rfl hl.1 rfl (lv_room (Nat.le_of_ble_eq_true rfl)) dX6_putValue_32) hS hD hh hpp (fun r_11 S_12 H locs hw_13 hP hD hS hC hh hs_14 hpp => ?_)
    obtain ⟨hu9, hw_13⟩ := hw_13
    have hu9 := hu9.symm
    subst hu9
    rcases Decidable.em (r_11 = 0) with c_15 | c_15
    · skip
      refine lv_tableIn (tgt := 60) hx hb dX6_putValue_35 (by rw [c_15]; decide) (by rw [c_15]; decide) (by rw [c_15]; rfl) (by decide) ?_
      refine lv_aload_n hx hb dX6_putValue_60 rfl (lv_at hl 1 rfl) ?_
      refine va_get (D := gD G) (ci := 6) (v := .ref (ga G 8)) (C := RX6) (T := TX6) (N := 14) hx hb htu cu_in6 hown hK hP 5 cw_5 rfl 1 (by decide) (htu _ C_150) (fun _ h9 => h9) rfl dX6_putValue_61 ?_
      refine lv_iload_n hx hb dX6_putValue_64 rfl (lv_at hl 0 rfl) ?_
      have hC0 := hC
      refine c_cv (c_runV (As := [.int r_7]) (rest := []) (q0 := 8) (ci := 1) ⟨hx, hb, hml, hown, htu⟩ (s_putFigures_8 l G S sn r_7 hC hn hcap H) (cwV 1 htu hU_X6_154 rfl rfl rfl (by decide +kernel) ⟨show 1 + 1 ≤ (fu + 1) + 8 by omega, show 8 + (9 + 11) + 21 ≤ 30 * (fu + 1) + 200 by omega⟩) hP hK hD hC hpp cw_8 rfl rfl hl.1 rfl (lv_room (Nat.le_of_ble_eq_true rfl)) dX6_putValue_65) hS hD hh hpp (fun S_17 H locs hw_18 hP hD hS hC hh hs_19 hpp => ?_)
      try dsimp only at hw_18
      have aw_20 : AW [] [202] S S_17 := hw_18.1
      have aw_20t : AW [] [202] S S_17 := AW.rf.tr (aw_20.mono (by decide) (by decide))
      have tj_21 : TJ S_17 N := TJ.aw hT aw_20 (by decide)
      obtain ⟨sg_22, sg_221, -, sg_223⟩ := hw_18.2
      exact c_vret hx hb hr hK hP hD hS hC hh hpp ⟨aw_20t, ⟨_, sg_221, sg_223⟩⟩ dX6_putValue_68 hlocks
    rcases Decidable.em (r_11 = 1) with c_23 | c_23
    · skip
      refine lv_tableIn (tgt := 69) hx hb dX6_putValue_35 (by rw [c_23]; decide) (by rw [c_23]; decide) (by rw [c_23]; rfl) (by decide) ?_
      refine lv_aload_n hx hb dX6_putValue_69 rfl (lv_at hl 1 rfl) ?_
      refine va_get (D := gD G) (ci := 6) (v := .ref (ga G 8)) (C := RX6) (T := TX6) (N := 14) hx hb htu cu_in6 hown hK hP 5 cw_5 rfl 1 (by decide) (htu _ C_150) (fun _ h9 => h9) rfl dX6_putValue_70 ?_
      refine lv_iload_n hx hb dX6_putValue_73 rfl (lv_at hl 0 rfl) ?_
      refine lv_iconst (v := 1) hx hb dX6_putValue_74 (by decide) ?_
      refine lv_icmp_ne (tgt := 83) hx hb dX6_putValue_75 (by decide) (fun c_24 => ?_) (fun c_24 => ?_)
      · skip
        refine lv_bipush (v := 110) hx hb dX6_putValue_83 (by decide) ?_
        have hC0 := hC
        refine c_cv (c_runV (As := [.int 110]) (rest := []) (q0 := 8) (ci := 1) ⟨hx, hb, hml, hown, htu⟩ (s_put_8 l G S sn 110 hC hn hcap H) (cwV 1 htu hU_X6_157 rfl rfl rfl (by decide +kernel) ⟨show 0 + 1 ≤ (fu + 1) + 8 by omega, show 8 + (2 + 11) + 0 ≤ 30 * (fu + 1) + 200 by omega⟩) hP hK hD hC hpp cw_8 rfl rfl hl.1 rfl (lv_room (Nat.le_of_ble_eq_true rfl)) dX6_putValue_85) hS hD hh hpp (fun S_26 H locs hw_27 hP hD hS hC hh hs_28 hpp => ?_)
        try dsimp only at hw_27
        have aw_29 : AW [] [202] S S_26 := hw_27.1
        have aw_29t : AW [] [202] S S_26 := AW.rf.tr (aw_29.mono (by decide) (by decide))
        have tj_30 : TJ S_26 N := TJ.aw hT aw_29 (by decide)
        obtain ⟨sg_31, sg_311, -, sg_313, -⟩ := hw_27.2
        exact c_vret hx hb hr hK hP hD hS hC hh hpp ⟨aw_29t, ⟨_, sg_311, sg_313⟩⟩ dX6_putValue_88 hlocks
      · skip
        refine lv_bipush (v := 121) hx hb dX6_putValue_78 (by decide) ?_
        refine lv_goto (tgt := 85) hx hb dX6_putValue_80 (by decide) ?_
        have hC0 := hC
        refine c_cv (c_runV (As := [.int 121]) (rest := []) (q0 := 8) (ci := 1) ⟨hx, hb, hml, hown, htu⟩ (s_put_8 l G S sn 121 hC hn hcap H) (cwV 1 htu hU_X6_157 rfl rfl rfl (by decide +kernel) ⟨show 0 + 1 ≤ (fu + 1) + 8 by omega, show 8 + (2 + 11) + 0 ≤ 30 * (fu + 1) + 200 by omega⟩) hP hK hD hC hpp cw_8 rfl rfl hl.1 rfl (lv_room (Nat.le_of_ble_eq_true rfl)) dX6_putValue_85) hS hD hh hpp (fun S_33 H locs hw_34 hP hD hS hC hh hs_35 hpp => ?_)
        try dsimp only at hw_34
        have aw_36 : AW [] [202] S S_33 := hw_34.1
        have aw_36t : AW [] [202] S S_33 := AW.rf.tr (aw_36.mono (by decide) (by decide))
        have tj_37 : TJ S_33 N := TJ.aw hT aw_36 (by decide)
        obtain ⟨sg_38, sg_381, -, sg_383, -⟩ := hw_34.2
        exact c_vret hx hb hr hK hP hD hS hC hh hpp ⟨aw_36t, ⟨_, sg_381, sg_383⟩⟩ dX6_putValue_88 hlocks
    rcases Decidable.em (r_11 = 2) with c_39 | c_39
    · skip
      refine lv_tableIn (tgt := 89) hx hb dX6_putValue_35 (by rw [c_39]; decide) (by rw [c_39]; decide) (by rw [c_39]; rfl) (by decide) ?_
      refine lv_aload_n hx hb dX6_putValue_89 rfl (lv_at hl 1 rfl) ?_
      refine va_get (D := gD G) (ci := 6) (v := .ref (ga G 8)) (C := RX6) (T := TX6) (N := 14) hx hb htu cu_in6 hown hK hP 5 cw_5 rfl 1 (by decide) (htu _ C_150) (fun _ h9 => h9) rfl dX6_putValue_90 ?_
      refine lv_bipush (v := 102) hx hb dX6_putValue_93 (by decide) ?_
      have hC0 := hC
      refine c_cv (c_runV (As := [.int 102]) (rest := []) (q0 := 8) (ci := 1) ⟨hx, hb, hml, hown, htu⟩ (s_put_8 l G S sn 102 hC hn hcap H) (cwV 1 htu hU_X6_157 rfl rfl rfl (by decide +kernel) ⟨show 0 + 1 ≤ (fu + 1) + 8 by omega, show 8 + (2 + 11) + 0 ≤ 30 * (fu + 1) + 200 by omega⟩) hP hK hD hC hpp cw_8 rfl rfl hl.1 rfl (lv_room (Nat.le_of_ble_eq_true rfl)) dX6_putValue_95) hS hD hh hpp (fun S_41 H locs hw_42 hP hD hS hC hh hs_43 hpp => ?_)
      try dsimp only at hw_42
      have aw_44 : AW [] [202] S S_41 := hw_42.1
      have aw_44t : AW [] [202] S S_41 := AW.rf.tr (aw_44.mono (by decide) (by decide))
      have tj_45 : TJ S_41 N := TJ.aw hT aw_44 (by decide)
      obtain ⟨sg_46, sg_461, -, sg_463, -⟩ := hw_42.2
      exact c_vret hx hb hr hK hP hD hS hC hh hpp ⟨aw_44t, ⟨_, sg_461, sg_463⟩⟩ dX6_putValue_98 hlocks
    have hout : (r_11).toInt < 0 ∨ 2 < (r_11).toInt := tb_out r_11 0 2 (fun z h1 h2 e => by
      rcases (show z = 0 ∨ z = 1 ∨ z = 2 by omega) with rfl | rfl | rfl
      · exact c_15 (Int32.toInt_inj.mp (e.trans (by decide)))
      · exact c_23 (Int32.toInt_inj.mp (e.trans (by decide)))
      · exact c_39 (Int32.toInt_inj.mp (e.trans (by decide))))
    refine lv_tableOut (tgt := 99) hx hb dX6_putValue_35 hout (by decide) ?_
    refine lv_aload_n hx hb dX6_putValue_99 rfl (lv_at hl 1 rfl) ?_
    refine va_get (D := gD G) (ci := 6) (v := .ref (ga G 8)) (C := RX6) (T := TX6) (N := 14) hx hb htu cu_in6 hown hK hP 5 cw_5 rfl 1 (by decide) (htu _ C_150) (fun _ h9 => h9) rfl dX6_putValue_100 ?_
    refine lv_bipush (v := 123) hx hb dX6_putValue_103 (by decide) ?_
    have hC0 := hC
    refine c_cv (c_runV (As := [.int 123]) (rest := []) (q0 := 8) (ci := 1) ⟨hx, hb, hml, hown, htu⟩ (s_put_8 l G S sn 123 hC hn hcap H) (cwV 1 htu hU_X6_157 rfl rfl rfl (by decide +kernel) ⟨show 0 + 1 ≤ (fu + 1) + 8 by omega, show 8 + (2 + 11) + 0 ≤ 30 * (fu + 1) + 200 by omega⟩) hP hK hD hC hpp cw_8 rfl rfl hl.1 rfl (lv_room (Nat.le_of_ble_eq_true rfl)) dX6_putValue_105) hS hD hh hpp (fun S_48 H locs hw_49 hP hD hS hC hh hs_50 hpp => ?_)
    try dsimp only at hw_49
    have aw_51 : AW [] [202] S S_48 := hw_49.1
    have aw_51t : AW [] [202] S S_48 := AW.rf.tr (aw_51.mono (by decide) (by decide))
    have tj_52 : TJ S_48 N := TJ.aw hT aw_51 (by decide)
    obtain ⟨sg_53, sg_531, -, sg_533, -⟩ := hw_49.2
    refine lv_aload_n hx hb dX6_putValue_108 rfl (lv_at hl 1 rfl) ?_
    refine va_get (D := gD G) (ci := 6) (v := .ref (ga G 1)) (C := RX6) (T := TX6) (N := 14) hx hb htu cu_in6 hown hK hP 5 cw_5 rfl 0 (by decide) (htu _ C_162) (fun _ h9 => h9) rfl dX6_putValue_109 ?_
    refine lv_iload_n hx hb dX6_putValue_112 rfl (lv_at hl 0 rfl) ?_
    have hC0 := hC
    refine c_ci (c_runV (As := [.int r_7]) (rest := []) (q0 := 1) (ci := 3) ⟨hx, hb, hml, hown, htu⟩ (tt_partCount l G S_48 N r_7 hC tj_52.1 H) (cwV 1 htu hU_X6_141 rfl rfl rfl (by decide +kernel) ⟨show 1 + 1 ≤ (fu + 1) + 8 by omega, show 8 + (2 + 11) + 21 ≤ 30 * (fu + 1) + 200 by omega⟩) hP hK hD hC hpp cw_1 rfl rfl hl.1 rfl (lv_room (Nat.le_of_ble_eq_true rfl)) dX6_putValue_113) hS hD hh hpp (fun r_54 S_55 H locs hw_56 hP hD hS hC hh hs_57 hpp => ?_)
    obtain ⟨-, hu9, hw_56⟩ := hw_56
    have hu9 := hu9.symm
    subst hu9
    have pc_58 : r_54 ≤ 6 := by rw [hw_56]; exact tj_52.pc _
    refine lv_istore (lv' := [(4, .int r_54), (3, .int r_7), (0, .ref (ga G 5)), (1, .int x), (2, .int (nI dp))]) hx hb dX6_putValue_116 hl (by decide) rfl (fun ls hl => ?_)
    refine lv_iconst (v := 0) hx hb dX6_putValue_118 (by decide) ?_
    refine lv_istore (lv' := [(5, .int 0), (4, .int r_54), (3, .int r_7), (0, .ref (ga G 5)), (1, .int x), (2, .int (nI dp))]) hx hb dX6_putValue_119 hl (by decide) rfl (fun ls hl => ?_)
    refine w_loop (fun j H locs k sl g => ∃ (S1 : cS) (sm : Nat) (i : Nat) (ls : Array Slot), CL S1 ∧ HS S S1 ∧ PT S ≤ PT S1 ∧ AW [] [202] S S1 ∧ i + j = 6 ∧ S1.1 202 = nI sm ∧ sm ≤ 200 ∧ k = PT S1 - PT S ∧ sl = 12 * (PT S1 - PT S) ∧ cP G S1 H ∧ cD (cA G S s.heap.size) G S1 ∧ va_S (cA G S s.heap.size) s.heap H locs ∧ lv_has ls 6 [(0, .ref (ga G 5)), (1, .int x), (2, .int (nI dp)), (3, .int r_7), (4, .int r_54), (5, .int (nI i))] ∧ g = F0 m 121 ls []) ?_ ?_ 6 _ _ _ _ _ ⟨S_48, sg_53, 0, ls, hC, hh, hpp, aw_51t, by omega, sg_531, sg_533, rfl, rfl, hP, hD, hS, lv_sub hl [3, 4, 5, 2, 1, 0] rfl, rfl⟩
    · intro H locs k sl g hI
      obtain ⟨S1, sm, i, ls, hC, hh, hpp, hAW, hp0, hp1, hp2, rfl, rfl, hP, hD, hS, hl, rfl⟩ := hI
      have tj1 : TJ S1 N := TJ.aw hT hAW (by decide)
      refine lv_iload hx hb dX6_putValue_121 (lv_at hl 5 rfl) ?_
      refine lv_iload hx hb dX6_putValue_123 (lv_at hl 4 rfl) ?_
      refine lv_icmp_ge (tgt := 186) hx hb dX6_putValue_125 (by decide) (fun c_59 => ?_) (fun c_59 => absurd (Int32.le_trans pc_58 (show (6 : Int32) ≤ nI i by rw [show i = 6 by omega]; decide)) c_59)
      refine lv_aload_n hx hb dX6_putValue_186 rfl (lv_at hl 0 rfl) ?_
      refine va_get (D := gD G) (ci := 6) (v := .ref (ga G 8)) (C := RX6) (T := TX6) (N := 14) hx hb htu cu_in6 hown hK hP 5 cw_5 rfl 1 (by decide) (htu _ C_150) (fun _ h9 => h9) rfl dX6_putValue_187 ?_
      refine lv_bipush (v := 125) hx hb dX6_putValue_190 (by decide) ?_
      have hC0 := hC
      refine c_cv (c_runV (As := [.int 125]) (rest := []) (q0 := 8) (ci := 1) ⟨hx, hb, hml, hown, htu⟩ (s_put_8 l G S1 sm 125 hC hp1 hp2 H) (cwV 1 htu hU_X6_157 rfl rfl rfl (by decide +kernel) ⟨show 0 + 1 ≤ (fu + 1) + 8 by omega, show 8 + (2 + 11) + 0 ≤ 30 * (fu + 1) + 200 by omega⟩) hP hK hD hC hpp cw_8 rfl rfl hl.1 rfl (lv_room (Nat.le_of_ble_eq_true rfl)) dX6_putValue_192) hS hD hh hpp (fun S_61 H locs hw_62 hP hD hS hC hh hs_63 hpp => ?_)
      try dsimp only at hw_62
      have aw_64 : AW [] [202] S1 S_61 := hw_62.1
      have aw_64t : AW [] [202] S S_61 := hAW.tr (aw_64.mono (by decide) (by decide))
      have tj_65 : TJ S_61 N := TJ.aw tj1 aw_64 (by decide)
      obtain ⟨sg_66, sg_661, -, sg_663, -⟩ := hw_62.2
      exact c_vret hx hb hr hK hP hD hS hC hh hpp ⟨aw_64t, ⟨_, sg_661, sg_663⟩⟩ dX6_putValue_195 hlocks
    · intro j ih9 H locs k sl g hI
      obtain ⟨S1, sm, i, ls, hC, hh, hpp, hAW, hp0, hp1, hp2, rfl, rfl, hP, hD, hS, hl, rfl⟩ := hI
      have tj1 : TJ S1 N := TJ.aw hT hAW (by decide)
      refine lv_iload hx hb dX6_putValue_121 (lv_at hl 5 rfl) ?_
      refine lv_iload hx hb dX6_putValue_123 (lv_at hl 4 rfl) ?_
      refine lv_icmp_ge (tgt := 186) hx hb dX6_putValue_125 (by decide) (fun c_67 => ?_) (fun c_67 => ?_)
      · skip
        refine lv_aload_n hx hb dX6_putValue_186 rfl (lv_at hl 0 rfl) ?_
        refine va_get (D := gD G) (ci := 6) (v := .ref (ga G 8)) (C := RX6) (T := TX6) (N := 14) hx hb htu cu_in6 hown hK hP 5 cw_5 rfl 1 (by decide) (htu _ C_150) (fun _ h9 => h9) rfl dX6_putValue_187 ?_
        refine lv_bipush (v := 125) hx hb dX6_putValue_190 (by decide) ?_
        have hC0 := hC
        refine c_cv (c_runV (As := [.int 125]) (rest := []) (q0 := 8) (ci := 1) ⟨hx, hb, hml, hown, htu⟩ (s_put_8 l G S1 sm 125 hC hp1 hp2 H) (cwV 1 htu hU_X6_157 rfl rfl rfl (by decide +kernel) ⟨show 0 + 1 ≤ (fu + 1) + 8 by omega, show 8 + (2 + 11) + 0 ≤ 30 * (fu + 1) + 200 by omega⟩) hP hK hD hC hpp cw_8 rfl rfl hl.1 rfl (lv_room (Nat.le_of_ble_eq_true rfl)) dX6_putValue_192) hS hD hh hpp (fun S_69 H locs hw_70 hP hD hS hC hh hs_71 hpp => ?_)
        try dsimp only at hw_70
        have aw_72 : AW [] [202] S1 S_69 := hw_70.1
        have aw_72t : AW [] [202] S S_69 := hAW.tr (aw_72.mono (by decide) (by decide))
        have tj_73 : TJ S_69 N := TJ.aw tj1 aw_72 (by decide)
        obtain ⟨sg_74, sg_741, -, sg_743, -⟩ := hw_70.2
        exact c_vret hx hb hr hK hP hD hS hC hh hpp ⟨aw_72t, ⟨_, sg_741, sg_743⟩⟩ dX6_putValue_195 hlocks
      · skip
        refine lv_aload_n hx hb dX6_putValue_128 rfl (lv_at hl 0 rfl) ?_
        refine va_get (D := gD G) (ci := 6) (v := .ref (ga G 8)) (C := RX6) (T := TX6) (N := 14) hx hb htu cu_in6 hown hK hP 5 cw_5 rfl 1 (by decide) (htu _ C_150) (fun _ h9 => h9) rfl dX6_putValue_129 ?_
        have hC0 := hC
        refine c_ci (c_runV (As := []) (rest := []) (q0 := 8) (ci := 1) ⟨hx, hb, hml, hown, htu⟩ (s_isFull_8 l G S1 sm hC hp1 hp2 H) (cwV 0 htu hU_X6_150 rfl rfl rfl (by decide +kernel) ⟨show 0 + 1 ≤ (fu + 1) + 8 by omega, show 8 + (1 + 11) + 0 ≤ 30 * (fu + 1) + 200 by omega⟩) hP hK hD hC hpp cw_8 rfl rfl hl.1 rfl (lv_room (Nat.le_of_ble_eq_true rfl)) dX6_putValue_132) hS hD hh hpp (fun r_75 S_76 H locs hw_77 hP hD hS hC hh hs_78 hpp => ?_)
        obtain ⟨-, hu9, hw_77⟩ := hw_77
        have hu9 := hu9.symm
        subst hu9
        clear hw_77
        refine lv_if_ne (tgt := 186) hx hb dX6_putValue_135 (by decide) (fun c_79 => ?_) (fun c_79 => ?_)
        · skip
          refine lv_aload_n hx hb dX6_putValue_186 rfl (lv_at hl 0 rfl) ?_
          refine va_get (D := gD G) (ci := 6) (v := .ref (ga G 8)) (C := RX6) (T := TX6) (N := 14) hx hb htu cu_in6 hown hK hP 5 cw_5 rfl 1 (by decide) (htu _ C_150) (fun _ h9 => h9) rfl dX6_putValue_187 ?_
          refine lv_bipush (v := 125) hx hb dX6_putValue_190 (by decide) ?_
          have hC0 := hC
          refine c_cv (c_runV (As := [.int 125]) (rest := []) (q0 := 8) (ci := 1) ⟨hx, hb, hml, hown, htu⟩ (s_put_8 l G S1 sm 125 hC hp1 hp2 H) (cwV 1 htu hU_X6_157 rfl rfl rfl (by decide +kernel) ⟨show 0 + 1 ≤ (fu + 1) + 8 by omega, show 8 + (2 + 11) + 0 ≤ 30 * (fu + 1) + 200 by omega⟩) hP hK hD hC hpp cw_8 rfl rfl hl.1 rfl (lv_room (Nat.le_of_ble_eq_true rfl)) dX6_putValue_192) hS hD hh hpp (fun S_81 H locs hw_82 hP hD hS hC hh hs_83 hpp => ?_)
          try dsimp only at hw_82
          have aw_84 : AW [] [202] S1 S_81 := hw_82.1
          have aw_84t : AW [] [202] S S_81 := hAW.tr (aw_84.mono (by decide) (by decide))
          have tj_85 : TJ S_81 N := TJ.aw tj1 aw_84 (by decide)
          obtain ⟨sg_86, sg_861, -, sg_863, -⟩ := hw_82.2
          exact c_vret hx hb hr hK hP hD hS hC hh hpp ⟨aw_84t, ⟨_, sg_861, sg_863⟩⟩ dX6_putValue_195 hlocks
        · skip
          refine lv_aload_n hx hb dX6_putValue_138 rfl (lv_at hl 0 rfl) ?_
          refine va_get (D := gD G) (ci := 6) (v := .ref (ga G 8)) (C := RX6) (T := TX6) (N := 14) hx hb htu cu_in6 hown hK hP 5 cw_5 rfl 1 (by decide) (htu _ C_150) (fun _ h9 => h9) rfl dX6_putValue_139 ?_
          refine lv_aload_n hx hb dX6_putValue_142 rfl (lv_at hl 0 rfl) ?_
          refine va_get (D := gD G) (ci := 6) (v := .ref (ga G 1)) (C := RX6) (T := TX6) (N := 14) hx hb htu cu_in6 hown hK hP 5 cw_5 rfl 0 (by decide) (htu _ C_162) (fun _ h9 => h9) rfl dX6_putValue_143 ?_
          refine lv_iload_n hx hb dX6_putValue_146 rfl (lv_at hl 3 rfl) ?_
          refine lv_iload hx hb dX6_putValue_147 (lv_at hl 5 rfl) ?_
          have hC0 := hC
          refine c_ci (c_runV (As := [.int r_7, .int (nI i)]) (rest := [.ref (ga G 8)]) (q0 := 1) (ci := 3) ⟨hx, hb, hml, hown, htu⟩ (tt_labelOf l G S1 N r_7 (nI i) hC tj1.1 H) (cwV 2 htu hU_X6_161 rfl rfl rfl (by decide +kernel) ⟨show 1 + 1 ≤ (fu + 1) + 8 by omega, show 8 + (3 + 11) + 21 ≤ 30 * (fu + 1) + 200 by omega⟩) hP hK hD hC hpp cw_1 rfl rfl hl.1 rfl (lv_room (Nat.le_of_ble_eq_true rfl)) dX6_putValue_149) hS hD hh hpp (fun r_87 S_88 H locs hw_89 hP hD hS hC hh hs_90 hpp => ?_)
          obtain ⟨-, hu9, hw_89⟩ := hw_89
          have hu9 := hu9.symm
          subst hu9
          have hC0 := hC
          refine c_cv (c_runV (As := [.int r_87]) (rest := []) (q0 := 8) (ci := 1) ⟨hx, hb, hml, hown, htu⟩ (s_putLetter_8 l G S1 sm r_87 hC hp1 hp2 H) (cwV 1 htu hU_X6_164 rfl rfl rfl (by decide +kernel) ⟨show 1 + 1 ≤ (fu + 1) + 8 by omega, show 8 + (2 + 11) + 21 ≤ 30 * (fu + 1) + 200 by omega⟩) hP hK hD hC hpp cw_8 rfl rfl hl.1 rfl (lv_room (Nat.le_of_ble_eq_true rfl)) dX6_putValue_152) hS hD hh hpp (fun S_92 H locs hw_93 hP hD hS hC hh hs_94 hpp => ?_)
          try dsimp only at hw_93
          have aw_95 : AW [] [202] S1 S_92 := hw_93.1
          have aw_95t : AW [] [202] S S_92 := hAW.tr (aw_95.mono (by decide) (by decide))
          have tj_96 : TJ S_92 N := TJ.aw tj1 aw_95 (by decide)
          obtain ⟨sg_97, sg_971, -, sg_973, -⟩ := hw_93.2
          refine lv_aload_n hx hb dX6_putValue_155 rfl (lv_at hl 0 rfl) ?_
          refine lv_aload_n hx hb dX6_putValue_156 rfl (lv_at hl 0 rfl) ?_
          refine va_get (D := gD G) (ci := 6) (v := .ref (kH S 30)) (C := RX6) (T := TX6) (N := 14) hx hb htu cu_in6 hown hK hP 5 cw_5 rfl 5 (by decide) (htu _ C_155) (fun _ h9 => h9) (c_hv (hh.2 30 (lt35 (by decide)))) dX6_putValue_157 ?_
          refine lv_aload_n hx hb dX6_putValue_160 rfl (lv_at hl 0 rfl) ?_
          refine va_get (D := gD G) (ci := 6) (v := .ref (kH S 29)) (C := RX6) (T := TX6) (N := 14) hx hb htu cu_in6 hown hK hP 5 cw_5 rfl 4 (by decide) (htu _ C_154) (fun _ h9 => h9) (c_hv (hh.2 29 (lt35 (by decide)))) dX6_putValue_161 ?_
          refine lv_iload_n hx hb dX6_putValue_164 rfl (lv_at hl 1 rfl) ?_
          have hC0 := hC
          refine c_ci (c_runV (As := [.int x]) (rest := [.ref (kH S 30), .ref (ga G 5)]) (q0 := (2 * 29 + 13)) (ci := 0) ⟨hx, hb, hml, hown, htu⟩ (c_getA l G S_92 29 (lt35 (by decide)) hC (kH S 29) (hh.2 29 (lt35 (by decide))) x H) (cwV 1 htu hU_X6_131 rfl rfl rfl (by decide +kernel) ⟨show 0 + 1 ≤ (fu + 1) + 8 by omega, show 8 + (2 + 11) + 0 ≤ 30 * (fu + 1) + 200 by omega⟩) hP hK hD hC hpp (c_hd (hh.2 29 (lt35 (by decide))) (cw_row (lt35 (by decide)))) rfl rfl hl.1 rfl (lv_room (Nat.le_of_ble_eq_true rfl)) dX6_putValue_165) hS hD hh hpp (fun r_98 S_99 H locs hw_100 hP hD hS hC hh hs_101 hpp => ?_)
          obtain ⟨hu9, hw_100⟩ := hw_100
          have hu9 := hu9.symm
          subst hu9
          refine lv_iload hx hb dX6_putValue_168 (lv_at hl 5 rfl) ?_
          refine lv_iadd hx hb dX6_putValue_170 ?_
          refine lv_topi (fun f_102 ef_102 => ?_)
          have hC0 := hC
          refine c_ci (c_runV (As := [.int f_102]) (rest := [.ref (ga G 5)]) (q0 := (2 * 30 + 13)) (ci := 0) ⟨hx, hb, hml, hown, htu⟩ (c_getA l G S_92 30 (lt35 (by decide)) hC (kH S 30) (hh.2 30 (lt35 (by decide))) f_102 H) (cwV 1 htu hU_X6_131 rfl rfl rfl (by decide +kernel) ⟨show 0 + 1 ≤ (fu + 1) + 8 by omega, show 8 + (2 + 11) + 0 ≤ 30 * (fu + 1) + 200 by omega⟩) hP hK hD hC hpp (c_hd (hh.2 30 (lt35 (by decide))) (cw_row (lt35 (by decide)))) rfl rfl hl.1 rfl (lv_room (Nat.le_of_ble_eq_true rfl)) dX6_putValue_171) hS hD hh hpp (fun r_103 S_104 H locs hw_105 hP hD hS hC hh hs_106 hpp => ?_)
          obtain ⟨hu9, hw_105⟩ := hw_105
          have hu9 := hu9.symm
          subst hu9
          refine lv_iload_n hx hb dX6_putValue_174 rfl (lv_at hl 2 rfl) ?_
          refine lv_iconst (v := 1) hx hb dX6_putValue_175 (by decide) ?_
          refine lv_iadd hx hb dX6_putValue_176 ?_
          refine m_top (y := nI (dp + 1)) (nI_add dp 1) ?_
          have hC0 := hC
          refine c_cv (c_runV (As := [.int r_103, .int (nI (dp + 1))]) (rest := []) (q0 := 5) (ci := 6) ⟨hx, hb, hml, hown, htu⟩ (ih l G S_92 sg_97 N (dp + 1) r_103 hC sg_971 sg_973 tj_96 ((by omega)) H) (cwV 2 htu hU_X6_66 rfl rfl rfl (by decide +kernel) ⟨show (fu + 8) + 1 ≤ (fu + 1) + 8 by omega, show 8 + (6 + 11) + (30 * fu + 200) ≤ 30 * (fu + 1) + 200 by omega⟩) hP hK hD hC hpp cw_5 rfl rfl hl.1 rfl (lv_room (Nat.le_of_ble_eq_true rfl)) dX6_putValue_177) hS hD hh hpp (fun S_108 H locs hw_109 hP hD hS hC hh hs_110 hpp => ?_)
          try dsimp only at hw_109
          have aw_111 : AW [] [202] S_92 S_108 := hw_109.1
          have aw_111t : AW [] [202] S S_108 := aw_95t.tr (aw_111.mono (by decide) (by decide))
          have tj_112 : TJ S_108 N := TJ.aw tj_96 aw_111 (by decide)
          obtain ⟨sg_113, sg_1131, sg_1133⟩ := hw_109.2
          refine lv_iinc (v := nI (i + 1)) (lv' := [(5, .int (nI (i + 1))), (0, .ref (ga G 5)), (1, .int x), (2, .int (nI dp)), (3, .int r_7), (4, .int r_54)]) hx hb dX6_putValue_180 hl (k := 5) rfl (nI_1 i) (by decide) rfl (fun ls hl => ?_)
          refine lv_goto (tgt := 121) hx hb dX6_putValue_183 (by decide) ?_
          exact ih9 _ _ _ _ _ ⟨S_108, sg_113, i + 1, ls, hC, hh, hpp, aw_111t, by omega, sg_1131, sg_1133, rfl, rfl, hP, hD, hS, lv_sub hl [1, 2, 3, 4, 5, 0] rfl, rfl⟩

theorem w_put_all : ∀ fu, cPutAt fu := by
  intro fu
  induction fu with
  | zero => exact fun l G S sn N dp x hC hn hcap hT hdp Hs => w_put_0 l G S sn N dp x hC hn hcap hT hdp Hs
  | succ fu ih => exact fun l G S sn N dp x hC hn hcap hT hdp Hs => w_put_s l G S fu sn N dp x hC ih hn hcap hT hdp Hs

set_option maxHeartbeats 4000000 in
set_option maxRecDepth 100000 in
/-- startAnew -/
theorem w_startAnew (l : Launch) (G : cG) (S : cS) (al : Nat) (hC : CL S) (hal : al ≤ 300) (Hs : Heap) : Met l yX6_startAnew (wC yX6_startAnew cX6_startAnew 2 none) (cRm S 1 21) (cPc G S Hs [.ref (ga G 5), .int (nI al)]) (cQv G S Hs (fun u => AW [27, 28, 29, 30, 31, 32, 33, 34] [110, 111, 112, 202] S u ∧ (WR u al 0 0 0 0 ∧ u.1 202 = nI 0))) (CC - PT S) (12 * (CC - PT S)) (cA G S Hs.size) := by
  refine Met.ofW (cc := cX6_startAnew) (maxL := 2) (ret := none) (by decide) rfl ?_
  intro p e s m args below meth c s₁ B hml hv
  obtain ⟨rfl, hsz, hP, hK, hD0, -⟩ := hv
  have hx := B.exec
  have hb := B.bytes
  have hr := B.returns
  have htu : ∀ w ∈ CU, w.before _ s = true := fun w h => atoms_spec (ws := (wC yX6_startAnew cX6_startAnew 2 none)) B.pre w (List.mem_cons_of_mem _ h)
  have hown : s.vm.findClass RX6 = some m.cls := findClass_of_methodNamed B.named
  have hlocks := B.notSynchronized
  subst hsz
  have hD : cD (cA G S s.heap.size) G S := cD_self hD0
  have hl := lv_entry ([.ref (ga G 5), .int (nI al)]) (n := 2) (Nat.le_of_ble_eq_true rfl)
  rw [lg_entry_eq]
  generalize (lg_sl ([.ref (ga G 5), .int (nI al)]) ++ List.replicate (2 - (lg_sl ([.ref (ga G 5), .int (nI al)])).length) Slot.unset).toArray = ls at hl ⊢
  have hl : lv_has ls 2 [(0, .ref (ga G 5)), (1, .int (nI al))] := hl
  obtain ⟨H, hHe⟩ : ∃ H : Heap, H = s.heap := ⟨_, rfl⟩
  rw [← hHe] at hP
  have hS : va_S (cA G S s.heap.size) s.heap H [] := by rw [hHe]; exact va_S.rf
  have hh : HS S S := HS.rf
  have hpp : PT S ≤ PT S := Nat.le_refl _
  have hB9 := hC.1
  refine W.heq hHe ?_
  refine c_ent (S := S) ?_
  refine lv_aload_n hx hb dX6_startAnew_0 rfl (lv_at hl 0 rfl) ?_
  refine va_get (D := gD G) (ci := 6) (v := .ref (kH S 27)) (C := RX6) (T := TX6) (N := 14) hx hb htu cu_in6 hown hK hP 5 cw_5 rfl 2 (by decide) (htu _ C_152) (fun _ h9 => h9) rfl dX6_startAnew_1 ?_
  refine lv_iconst (v := 0) hx hb dX6_startAnew_4 (by decide) ?_
  have hC0 := hC
  refine c_cv (c_runV (As := [.int 0]) (rest := []) (q0 := (2 * 27 + 13)) (ci := 0) ⟨hx, hb, hml, hown, htu⟩ (c_cutA l G S 27 (lt35 (by decide)) hC (kH S 27) rfl 0 H) (cwV 1 htu hU_X6_70 rfl rfl rfl (by decide +kernel) ⟨Nat.le_of_ble_eq_true rfl, Nat.le_of_ble_eq_true rfl⟩) hP hK hD hC hpp (c_hd rfl (cw_row (lt35 (by decide)))) rfl rfl hl.1 rfl (lv_room (Nat.le_of_ble_eq_true rfl)) dX6_startAnew_5) hS hD hh hpp (fun S_2 H locs hw_3 hP hD hS hC hh hs_4 hpp => ?_)
  try dsimp only at hw_3
  have aw_5 : AW [27] [] S S_2 := (by rw [hw_3]; exact AW.u (by decide))
  have aw_5t : AW [27, 28, 29, 30, 31, 32, 33, 34] [110, 111, 112, 202] S S_2 := AW.rf.tr (aw_5.mono (by decide) (by decide))
  have kk_6 : kK S_2 27 = 0 := by rw [hw_3]; exact uR_K.trans (rcut_0 _ (by have := hC0.2 27 (lt35 (by decide)); have := lim_le 27; omega))
  refine lv_aload_n hx hb dX6_startAnew_8 rfl (lv_at hl 0 rfl) ?_
  refine va_get (D := gD G) (ci := 6) (v := .ref (kH S 28)) (C := RX6) (T := TX6) (N := 14) hx hb htu cu_in6 hown hK hP 5 cw_5 rfl 3 (by decide) (htu _ C_153) (fun _ h9 => h9) (c_hv (hh.2 28 (lt35 (by decide)))) dX6_startAnew_9 ?_
  refine lv_iconst (v := 0) hx hb dX6_startAnew_12 (by decide) ?_
  have hC0 := hC
  refine c_cv (c_runV (As := [.int 0]) (rest := []) (q0 := (2 * 28 + 13)) (ci := 0) ⟨hx, hb, hml, hown, htu⟩ (c_cutA l G S_2 28 (lt35 (by decide)) hC (kH S 28) (hh.2 28 (lt35 (by decide))) 0 H) (cwV 1 htu hU_X6_70 rfl rfl rfl (by decide +kernel) ⟨Nat.le_of_ble_eq_true rfl, Nat.le_of_ble_eq_true rfl⟩) hP hK hD hC hpp (c_hd (hh.2 28 (lt35 (by decide))) (cw_row (lt35 (by decide)))) rfl rfl hl.1 rfl (lv_room (Nat.le_of_ble_eq_true rfl)) dX6_startAnew_13) hS hD hh hpp (fun S_8 H locs hw_9 hP hD hS hC hh hs_10 hpp => ?_)
  try dsimp only at hw_9
  have aw_11 : AW [28] [] S_2 S_8 := (by rw [hw_9]; exact AW.u (by decide))
  have aw_11t : AW [27, 28, 29, 30, 31, 32, 33, 34] [110, 111, 112, 202] S S_8 := aw_5t.tr (aw_11.mono (by decide) (by decide))
  have kk_12 : kK S_8 27 = 0 := (aw_11.2.1 27 (lt35 (by decide)) (by decide)).2.trans kk_6
  have kk_13 : kK S_8 28 = 0 := by rw [hw_9]; exact uR_K.trans (rcut_0 _ (by have := hC0.2 28 (lt35 (by decide)); have := lim_le 28; omega))
  refine lv_aload_n hx hb dX6_startAnew_16 rfl (lv_at hl 0 rfl) ?_
  refine va_get (D := gD G) (ci := 6) (v := .ref (kH S 29)) (C := RX6) (T := TX6) (N := 14) hx hb htu cu_in6 hown hK hP 5 cw_5 rfl 4 (by decide) (htu _ C_154) (fun _ h9 => h9) (c_hv (hh.2 29 (lt35 (by decide)))) dX6_startAnew_17 ?_
  refine lv_iconst (v := 0) hx hb dX6_startAnew_20 (by decide) ?_
  have hC0 := hC
  refine c_cv (c_runV (As := [.int 0]) (rest := []) (q0 := (2 * 29 + 13)) (ci := 0) ⟨hx, hb, hml, hown, htu⟩ (c_cutA l G S_8 29 (lt35 (by decide)) hC (kH S 29) (hh.2 29 (lt35 (by decide))) 0 H) (cwV 1 htu hU_X6_70 rfl rfl rfl (by decide +kernel) ⟨Nat.le_of_ble_eq_true rfl, Nat.le_of_ble_eq_true rfl⟩) hP hK hD hC hpp (c_hd (hh.2 29 (lt35 (by decide))) (cw_row (lt35 (by decide)))) rfl rfl hl.1 rfl (lv_room (Nat.le_of_ble_eq_true rfl)) dX6_startAnew_21) hS hD hh hpp (fun S_15 H locs hw_16 hP hD hS hC hh hs_17 hpp => ?_)
  try dsimp only at hw_16
  have aw_18 : AW [29] [] S_8 S_15 := (by rw [hw_16]; exact AW.u (by decide))
  have aw_18t : AW [27, 28, 29, 30, 31, 32, 33, 34] [110, 111, 112, 202] S S_15 := aw_11t.tr (aw_18.mono (by decide) (by decide))
  have kk_19 : kK S_15 27 = 0 := (aw_18.2.1 27 (lt35 (by decide)) (by decide)).2.trans kk_12
  have kk_20 : kK S_15 28 = 0 := (aw_18.2.1 28 (lt35 (by decide)) (by decide)).2.trans kk_13
  have kk_21 : kK S_15 29 = 0 := by rw [hw_16]; exact uR_K.trans (rcut_0 _ (by have := hC0.2 29 (lt35 (by decide)); have := lim_le 29; omega))
  refine lv_aload_n hx hb dX6_startAnew_24 rfl (lv_at hl 0 rfl) ?_
  refine va_get (D := gD G) (ci := 6) (v := .ref (kH S 30)) (C := RX6) (T := TX6) (N := 14) hx hb htu cu_in6 hown hK hP 5 cw_5 rfl 5 (by decide) (htu _ C_155) (fun _ h9 => h9) (c_hv (hh.2 30 (lt35 (by decide)))) dX6_startAnew_25 ?_
  refine lv_iconst (v := 0) hx hb dX6_startAnew_28 (by decide) ?_
  have hC0 := hC
  refine c_cv (c_runV (As := [.int 0]) (rest := []) (q0 := (2 * 30 + 13)) (ci := 0) ⟨hx, hb, hml, hown, htu⟩ (c_cutA l G S_15 30 (lt35 (by decide)) hC (kH S 30) (hh.2 30 (lt35 (by decide))) 0 H) (cwV 1 htu hU_X6_70 rfl rfl rfl (by decide +kernel) ⟨Nat.le_of_ble_eq_true rfl, Nat.le_of_ble_eq_true rfl⟩) hP hK hD hC hpp (c_hd (hh.2 30 (lt35 (by decide))) (cw_row (lt35 (by decide)))) rfl rfl hl.1 rfl (lv_room (Nat.le_of_ble_eq_true rfl)) dX6_startAnew_29) hS hD hh hpp (fun S_23 H locs hw_24 hP hD hS hC hh hs_25 hpp => ?_)
  try dsimp only at hw_24
  have aw_26 : AW [30] [] S_15 S_23 := (by rw [hw_24]; exact AW.u (by decide))
  have aw_26t : AW [27, 28, 29, 30, 31, 32, 33, 34] [110, 111, 112, 202] S S_23 := aw_18t.tr (aw_26.mono (by decide) (by decide))
  have kk_27 : kK S_23 27 = 0 := (aw_26.2.1 27 (lt35 (by decide)) (by decide)).2.trans kk_19
  have kk_28 : kK S_23 28 = 0 := (aw_26.2.1 28 (lt35 (by decide)) (by decide)).2.trans kk_20
  have kk_29 : kK S_23 29 = 0 := (aw_26.2.1 29 (lt35 (by decide)) (by decide)).2.trans kk_21
  have kk_30 : kK S_23 30 = 0 := by rw [hw_24]; exact uR_K.trans (rcut_0 _ (by have := hC0.2 30 (lt35 (by decide)); have := lim_le 30; omega))
  refine lv_aload_n hx hb dX6_startAnew_32 rfl (lv_at hl 0 rfl) ?_
  refine va_get (D := gD G) (ci := 6) (v := .ref (kH S 31)) (C := RX6) (T := TX6) (N := 14) hx hb htu cu_in6 hown hK hP 5 cw_5 rfl 6 (by decide) (htu _ C_156) (fun _ h9 => h9) (c_hv (hh.2 31 (lt35 (by decide)))) dX6_startAnew_33 ?_
  refine lv_iconst (v := 0) hx hb dX6_startAnew_36 (by decide) ?_
  have hC0 := hC
  refine c_cv (c_runV (As := [.int 0]) (rest := []) (q0 := (2 * 31 + 13)) (ci := 0) ⟨hx, hb, hml, hown, htu⟩ (c_cutA l G S_23 31 (lt35 (by decide)) hC (kH S 31) (hh.2 31 (lt35 (by decide))) 0 H) (cwV 1 htu hU_X6_70 rfl rfl rfl (by decide +kernel) ⟨Nat.le_of_ble_eq_true rfl, Nat.le_of_ble_eq_true rfl⟩) hP hK hD hC hpp (c_hd (hh.2 31 (lt35 (by decide))) (cw_row (lt35 (by decide)))) rfl rfl hl.1 rfl (lv_room (Nat.le_of_ble_eq_true rfl)) dX6_startAnew_37) hS hD hh hpp (fun S_32 H locs hw_33 hP hD hS hC hh hs_34 hpp => ?_)
  try dsimp only at hw_33
  have aw_35 : AW [31] [] S_23 S_32 := (by rw [hw_33]; exact AW.u (by decide))
  have aw_35t : AW [27, 28, 29, 30, 31, 32, 33, 34] [110, 111, 112, 202] S S_32 := aw_26t.tr (aw_35.mono (by decide) (by decide))
  have kk_36 : kK S_32 27 = 0 := (aw_35.2.1 27 (lt35 (by decide)) (by decide)).2.trans kk_27
  have kk_37 : kK S_32 28 = 0 := (aw_35.2.1 28 (lt35 (by decide)) (by decide)).2.trans kk_28
  have kk_38 : kK S_32 29 = 0 := (aw_35.2.1 29 (lt35 (by decide)) (by decide)).2.trans kk_29
  have kk_39 : kK S_32 30 = 0 := (aw_35.2.1 30 (lt35 (by decide)) (by decide)).2.trans kk_30
  have kk_40 : kK S_32 31 = 0 := by rw [hw_33]; exact uR_K.trans (rcut_0 _ (by have := hC0.2 31 (lt35 (by decide)); have := lim_le 31; omega))
  refine lv_aload_n hx hb dX6_startAnew_40 rfl (lv_at hl 0 rfl) ?_
  refine va_get (D := gD G) (ci := 6) (v := .ref (kH S 32)) (C := RX6) (T := TX6) (N := 14) hx hb htu cu_in6 hown hK hP 5 cw_5 rfl 7 (by decide) (htu _ C_157) (fun _ h9 => h9) (c_hv (hh.2 32 (lt35 (by decide)))) dX6_startAnew_41 ?_
  refine lv_iconst (v := 0) hx hb dX6_startAnew_44 (by decide) ?_
  have hC0 := hC
  refine c_cv (c_runV (As := [.int 0]) (rest := []) (q0 := (2 * 32 + 13)) (ci := 0) ⟨hx, hb, hml, hown, htu⟩ (c_cutA l G S_32 32 (lt35 (by decide)) hC (kH S 32) (hh.2 32 (lt35 (by decide))) 0 H) (cwV 1 htu hU_X6_70 rfl rfl rfl (by decide +kernel) ⟨Nat.le_of_ble_eq_true rfl, Nat.le_of_ble_eq_true rfl⟩) hP hK hD hC hpp (c_hd (hh.2 32 (lt35 (by decide))) (cw_row (lt35 (by decide)))) rfl rfl hl.1 rfl (lv_room (Nat.le_of_ble_eq_true rfl)) dX6_startAnew_45) hS hD hh hpp (fun S_42 H locs hw_43 hP hD hS hC hh hs_44 hpp => ?_)
  try dsimp only at hw_43
  have aw_45 : AW [32] [] S_32 S_42 := (by rw [hw_43]; exact AW.u (by decide))
  have aw_45t : AW [27, 28, 29, 30, 31, 32, 33, 34] [110, 111, 112, 202] S S_42 := aw_35t.tr (aw_45.mono (by decide) (by decide))
  have kk_46 : kK S_42 27 = 0 := (aw_45.2.1 27 (lt35 (by decide)) (by decide)).2.trans kk_36
  have kk_47 : kK S_42 28 = 0 := (aw_45.2.1 28 (lt35 (by decide)) (by decide)).2.trans kk_37
  have kk_48 : kK S_42 29 = 0 := (aw_45.2.1 29 (lt35 (by decide)) (by decide)).2.trans kk_38
  have kk_49 : kK S_42 30 = 0 := (aw_45.2.1 30 (lt35 (by decide)) (by decide)).2.trans kk_39
  have kk_50 : kK S_42 31 = 0 := (aw_45.2.1 31 (lt35 (by decide)) (by decide)).2.trans kk_40
  have kk_51 : kK S_42 32 = 0 := by rw [hw_43]; exact uR_K.trans (rcut_0 _ (by have := hC0.2 32 (lt35 (by decide)); have := lim_le 32; omega))
  refine lv_aload_n hx hb dX6_startAnew_48 rfl (lv_at hl 0 rfl) ?_
  refine va_get (D := gD G) (ci := 6) (v := .ref (kH S 33)) (C := RX6) (T := TX6) (N := 14) hx hb htu cu_in6 hown hK hP 5 cw_5 rfl 8 (by decide) (htu _ C_158) (fun _ h9 => h9) (c_hv (hh.2 33 (lt35 (by decide)))) dX6_startAnew_49 ?_
  refine lv_iconst (v := 0) hx hb dX6_startAnew_52 (by decide) ?_
  have hC0 := hC
  refine c_cv (c_runV (As := [.int 0]) (rest := []) (q0 := (2 * 33 + 13)) (ci := 0) ⟨hx, hb, hml, hown, htu⟩ (c_cutA l G S_42 33 (lt35 (by decide)) hC (kH S 33) (hh.2 33 (lt35 (by decide))) 0 H) (cwV 1 htu hU_X6_70 rfl rfl rfl (by decide +kernel) ⟨Nat.le_of_ble_eq_true rfl, Nat.le_of_ble_eq_true rfl⟩) hP hK hD hC hpp (c_hd (hh.2 33 (lt35 (by decide))) (cw_row (lt35 (by decide)))) rfl rfl hl.1 rfl (lv_room (Nat.le_of_ble_eq_true rfl)) dX6_startAnew_53) hS hD hh hpp (fun S_53 H locs hw_54 hP hD hS hC hh hs_55 hpp => ?_)
  try dsimp only at hw_54
  have aw_56 : AW [33] [] S_42 S_53 := (by rw [hw_54]; exact AW.u (by decide))
  have aw_56t : AW [27, 28, 29, 30, 31, 32, 33, 34] [110, 111, 112, 202] S S_53 := aw_45t.tr (aw_56.mono (by decide) (by decide))
  have kk_57 : kK S_53 27 = 0 := (aw_56.2.1 27 (lt35 (by decide)) (by decide)).2.trans kk_46
  have kk_58 : kK S_53 28 = 0 := (aw_56.2.1 28 (lt35 (by decide)) (by decide)).2.trans kk_47
  have kk_59 : kK S_53 29 = 0 := (aw_56.2.1 29 (lt35 (by decide)) (by decide)).2.trans kk_48
  have kk_60 : kK S_53 30 = 0 := (aw_56.2.1 30 (lt35 (by decide)) (by decide)).2.trans kk_49
  have kk_61 : kK S_53 31 = 0 := (aw_56.2.1 31 (lt35 (by decide)) (by decide)).2.trans kk_50
  have kk_62 : kK S_53 32 = 0 := (aw_56.2.1 32 (lt35 (by decide)) (by decide)).2.trans kk_51
  have kk_63 : kK S_53 33 = 0 := by rw [hw_54]; exact uR_K.trans (rcut_0 _ (by have := hC0.2 33 (lt35 (by decide)); have := lim_le 33; omega))
  refine lv_aload_n hx hb dX6_startAnew_56 rfl (lv_at hl 0 rfl) ?_
  refine va_get (D := gD G) (ci := 6) (v := .ref (kH S 34)) (C := RX6) (T := TX6) (N := 14) hx hb htu cu_in6 hown hK hP 5 cw_5 rfl 9 (by decide) (htu _ C_159) (fun _ h9 => h9) (c_hv (hh.2 34 (lt35 (by decide)))) dX6_startAnew_57 ?_
  refine lv_iconst (v := 0) hx hb dX6_startAnew_60 (by decide) ?_
  have hC0 := hC
  refine c_cv (c_runV (As := [.int 0]) (rest := []) (q0 := (2 * 34 + 13)) (ci := 0) ⟨hx, hb, hml, hown, htu⟩ (c_cutA l G S_53 34 (lt35 (by decide)) hC (kH S 34) (hh.2 34 (lt35 (by decide))) 0 H) (cwV 1 htu hU_X6_70 rfl rfl rfl (by decide +kernel) ⟨Nat.le_of_ble_eq_true rfl, Nat.le_of_ble_eq_true rfl⟩) hP hK hD hC hpp (c_hd (hh.2 34 (lt35 (by decide))) (cw_row (lt35 (by decide)))) rfl rfl hl.1 rfl (lv_room (Nat.le_of_ble_eq_true rfl)) dX6_startAnew_61) hS hD hh hpp (fun S_65 H locs hw_66 hP hD hS hC hh hs_67 hpp => ?_)
  try dsimp only at hw_66
  have aw_68 : AW [34] [] S_53 S_65 := (by rw [hw_66]; exact AW.u (by decide))
  have aw_68t : AW [27, 28, 29, 30, 31, 32, 33, 34] [110, 111, 112, 202] S S_65 := aw_56t.tr (aw_68.mono (by decide) (by decide))
  have kk_69 : kK S_65 27 = 0 := (aw_68.2.1 27 (lt35 (by decide)) (by decide)).2.trans kk_57
  have kk_70 : kK S_65 28 = 0 := (aw_68.2.1 28 (lt35 (by decide)) (by decide)).2.trans kk_58
  have kk_71 : kK S_65 29 = 0 := (aw_68.2.1 29 (lt35 (by decide)) (by decide)).2.trans kk_59
  have kk_72 : kK S_65 30 = 0 := (aw_68.2.1 30 (lt35 (by decide)) (by decide)).2.trans kk_60
  have kk_73 : kK S_65 31 = 0 := (aw_68.2.1 31 (lt35 (by decide)) (by decide)).2.trans kk_61
  have kk_74 : kK S_65 32 = 0 := (aw_68.2.1 32 (lt35 (by decide)) (by decide)).2.trans kk_62
  have kk_75 : kK S_65 33 = 0 := (aw_68.2.1 33 (lt35 (by decide)) (by decide)).2.trans kk_63
  have kk_76 : kK S_65 34 = 0 := by rw [hw_66]; exact uR_K.trans (rcut_0 _ (by have := hC0.2 34 (lt35 (by decide)); have := lim_le 34; omega))
  refine lv_aload_n hx hb dX6_startAnew_64 rfl (lv_at hl 0 rfl) ?_
  refine va_get (D := gD G) (ci := 6) (v := .ref (ga G 8)) (C := RX6) (T := TX6) (N := 14) hx hb htu cu_in6 hown hK hP 5 cw_5 rfl 1 (by decide) (htu _ C_150) (fun _ h9 => h9) rfl dX6_startAnew_65 ?_
  have hC0 := hC
  refine c_cv (c_runV (As := []) (rest := []) (q0 := 8) (ci := 1) ⟨hx, hb, hml, hown, htu⟩ (s_clear_8 l G S_65  hC  H) (cwV 0 htu hU_X6_73 rfl rfl rfl (by decide +kernel) ⟨Nat.le_of_ble_eq_true rfl, Nat.le_of_ble_eq_true rfl⟩) hP hK hD hC hpp cw_8 rfl rfl hl.1 rfl (lv_room (Nat.le_of_ble_eq_true rfl)) dX6_startAnew_68) hS hD hh hpp (fun S_78 H locs hw_79 hP hD hS hC hh hs_80 hpp => ?_)
  try dsimp only at hw_79
  have aw_81 : AW [] [202] S_65 S_78 := hw_79.1
  have aw_81t : AW [27, 28, 29, 30, 31, 32, 33, 34] [110, 111, 112, 202] S S_78 := aw_68t.tr (aw_81.mono (by decide) (by decide))
  have kk_82 : kK S_78 27 = 0 := (aw_81.2.1 27 (lt35 (by decide)) (by decide)).2.trans kk_69
  have kk_83 : kK S_78 28 = 0 := (aw_81.2.1 28 (lt35 (by decide)) (by decide)).2.trans kk_70
  have kk_84 : kK S_78 29 = 0 := (aw_81.2.1 29 (lt35 (by decide)) (by decide)).2.trans kk_71
  have kk_85 : kK S_78 30 = 0 := (aw_81.2.1 30 (lt35 (by decide)) (by decide)).2.trans kk_72
  have kk_86 : kK S_78 31 = 0 := (aw_81.2.1 31 (lt35 (by decide)) (by decide)).2.trans kk_73
  have kk_87 : kK S_78 32 = 0 := (aw_81.2.1 32 (lt35 (by decide)) (by decide)).2.trans kk_74
  have kk_88 : kK S_78 33 = 0 := (aw_81.2.1 33 (lt35 (by decide)) (by decide)).2.trans kk_75
  have kk_89 : kK S_78 34 = 0 := (aw_81.2.1 34 (lt35 (by decide)) (by decide)).2.trans kk_76
  refine lv_aload_n hx hb dX6_startAnew_71 rfl (lv_at hl 0 rfl) ?_
  refine lv_iload_n hx hb dX6_startAnew_72 rfl (lv_at hl 1 rfl) ?_
  refine c_put5_10 (x := (nI al)) hx hb htu hown hK hP hD hS (htu _ C_542) dX6_startAnew_73 (fun H locs hP hD hS => ?_)
  have S_90h : HS S (cO S_78 110 (nI al)) := hh
  have S_90c : CL (cO S_78 110 (nI al)) := hC
  have S_90p : PT S ≤ PT (cO S_78 110 (nI al)) := hpp
  refine c_eq (S1 := S_78) (S2 := cO S_78 110 (nI al)) rfl ?_
  have S_90w : AW [27, 28, 29, 30, 31, 32, 33, 34] [110, 111, 112, 202] S (cO S_78 110 (nI al)) := (AW.o aw_81t (by decide))
  have hh := S_90h
  have hC := S_90c
  have hpp := S_90p
  refine lv_aload_n hx hb dX6_startAnew_76 rfl (lv_at hl 0 rfl) ?_
  refine lv_iconst (v := 0) hx hb dX6_startAnew_77 (by decide) ?_
  refine c_put5_11 (x := 0) hx hb htu hown hK hP hD hS (htu _ C_543) dX6_startAnew_78 (fun H locs hP hD hS => ?_)
  have S_91h : HS S (cO (cO S_78 110 (nI al)) 111 0) := hh
  have S_91c : CL (cO (cO S_78 110 (nI al)) 111 0) := hC
  have S_91p : PT S ≤ PT (cO (cO S_78 110 (nI al)) 111 0) := hpp
  refine c_eq (S1 := (cO S_78 110 (nI al))) (S2 := cO (cO S_78 110 (nI al)) 111 0) rfl ?_
  have S_91w : AW [27, 28, 29, 30, 31, 32, 33, 34] [110, 111, 112, 202] S (cO (cO S_78 110 (nI al)) 111 0) := (AW.o S_90w (by decide))
  have hh := S_91h
  have hC := S_91c
  have hpp := S_91p
  refine lv_aload_n hx hb dX6_startAnew_81 rfl (lv_at hl 0 rfl) ?_
  refine lv_bipush (v := (-9)) hx hb dX6_startAnew_82 (by decide) ?_
  refine c_put5_12 (x := ((-9))) hx hb htu hown hK hP hD hS (htu _ C_160) dX6_startAnew_84 (fun H locs hP hD hS => ?_)
  have S_92h : HS S (cO (cO (cO S_78 110 (nI al)) 111 0) 112 ((-9))) := hh
  have S_92c : CL (cO (cO (cO S_78 110 (nI al)) 111 0) 112 ((-9))) := hC
  have S_92p : PT S ≤ PT (cO (cO (cO S_78 110 (nI al)) 111 0) 112 ((-9))) := hpp
  refine c_eq (S1 := (cO (cO S_78 110 (nI al)) 111 0)) (S2 := cO (cO (cO S_78 110 (nI al)) 111 0) 112 ((-9))) rfl ?_
  have S_92w : AW [27, 28, 29, 30, 31, 32, 33, 34] [110, 111, 112, 202] S (cO (cO (cO S_78 110 (nI al)) 111 0) 112 ((-9))) := (AW.o S_91w (by decide))
  have hh := S_92h
  have hC := S_92c
  have hpp := S_92p
  exact c_vret hx hb hr hK hP hD hS hC hh hpp ⟨S_92w, ⟨⟨⟨kk_82, kk_83, kk_84⟩, kk_85, ⟨kk_86, kk_87, kk_88, kk_89⟩, ((cO_n (show 110 ≠ 112 by decide)).trans ((cO_n (show 110 ≠ 111 by decide)).trans cO_s)), ((cO_n (show 111 ≠ 112 by decide)).trans cO_s), Nat.zero_le _, hal, Nat.le_refl _, Nat.le_refl _, Nat.le_refl _⟩, ((cO_n (show 202 ≠ 112 by decide)).trans ((cO_n (show 202 ≠ 111 by decide)).trans ((cO_n (show 202 ≠ 110 by decide)).trans hw_79.2)))⟩⟩ dX6_startAnew_87 hlocks

set_option maxHeartbeats 4000000 in
set_option maxRecDepth 100000 in
/-- workProgram -/
theorem w_workProgram (l : Launch) (G : cG) (S : cS) (N : Nat) (al : Nat) (n : Int32) (hC : CL S) (hT : TJ S N) (hal : al ≤ 300) (Hs : Heap) : Met l yX6_workProgram (wC yX6_workProgram cX6_workProgram 4 (some .int)) (cRm S 300 12000) (cPc G S Hs [.ref (ga G 5), .int n, .int (nI al)]) (cQi G S Hs (fun v u => AW [27, 28, 29, 30, 31, 32, 33, 34] [110, 111, 112, 113, 202] S u ∧ (∃ sm, u.1 202 = nI sm ∧ sm ≤ 200))) (CC - PT S) (12 * (CC - PT S)) (cA G S Hs.size) := by
  refine Met.ofW (cc := cX6_workProgram) (maxL := 4) (ret := (some .int)) (by decide) rfl ?_
  intro p e s m args below meth c s₁ B hml hv
  obtain ⟨rfl, hsz, hP, hK, hD0, -⟩ := hv
  have hx := B.exec
  have hb := B.bytes
  have hr := B.returns
  have htu : ∀ w ∈ CU, w.before _ s = true := fun w h => atoms_spec (ws := (wC yX6_workProgram cX6_workProgram 4 (some .int))) B.pre w (List.mem_cons_of_mem _ h)
  have hown : s.vm.findClass RX6 = some m.cls := findClass_of_methodNamed B.named
  have hlocks := B.notSynchronized
  subst hsz
  have hD : cD (cA G S s.heap.size) G S := cD_self hD0
  have hl := lv_entry ([.ref (ga G 5), .int n, .int (nI al)]) (n := 4) (Nat.le_of_ble_eq_true rfl)
  rw [lg_entry_eq]
  generalize (lg_sl ([.ref (ga G 5), .int n, .int (nI al)]) ++ List.replicate (4 - (lg_sl ([.ref (ga G 5), .int n, .int (nI al)])).length) Slot.unset).toArray = ls at hl ⊢
  have hl : lv_has ls 4 [(0, .ref (ga G 5)), (1, .int n), (2, .int (nI al))] := hl
  obtain ⟨H, hHe⟩ : ∃ H : Heap, H = s.heap := ⟨_, rfl⟩
  rw [← hHe] at hP
  have hS : va_S (cA G S s.heap.size) s.heap H [] := by rw [hHe]; exact va_S.rf
  have hh : HS S S := HS.rf
  have hpp : PT S ≤ PT S := Nat.le_refl _
  have hB9 := hC.1
  refine W.heq hHe ?_
  refine c_ent (S := S) ?_
  refine lv_aload_n hx hb dX6_workProgram_0 rfl (lv_at hl 0 rfl) ?_
  refine lv_iload_n hx hb dX6_workProgram_1 rfl (lv_at hl 2 rfl) ?_
  have hC0 := hC
  refine c_cv (c_runV (As := [.int (nI al)]) (rest := []) (q0 := 5) (ci := 6) ⟨hx, hb, hml, hown, htu⟩ (w_startAnew l G S al hC hal H) (cwV 1 htu hU_X6_59 rfl rfl rfl (by decide +kernel) ⟨show 1 + 1 ≤ 300 by omega, show 8 + (2 + 11) + 21 ≤ 12000 by omega⟩) hP hK hD hC hpp cw_5 rfl rfl hl.1 rfl (lv_room (Nat.le_of_ble_eq_true rfl)) dX6_workProgram_2) hS hD hh hpp (fun S_2 H locs hw_3 hP hD hS hC hh hs_4 hpp => ?_)
  try dsimp only at hw_3
  have aw_5 : AW [27, 28, 29, 30, 31, 32, 33, 34] [110, 111, 112, 202] S S_2 := hw_3.1
  have aw_5t : AW [27, 28, 29, 30, 31, 32, 33, 34] [110, 111, 112, 113, 202] S S_2 := AW.rf.tr (aw_5.mono (by decide) (by decide))
  have tj_6 : TJ S_2 N := TJ.aw hT aw_5 (by decide)
  refine lv_aload_n hx hb dX6_workProgram_5 rfl (lv_at hl 0 rfl) ?_
  refine lv_iload_n hx hb dX6_workProgram_6 rfl (lv_at hl 1 rfl) ?_
  refine lv_bipush (v := (-9)) hx hb dX6_workProgram_7 (by decide) ?_
  refine lv_iconst (v := 1) hx hb dX6_workProgram_9 (by decide) ?_
  have hC0 := hC
  refine c_ci (c_runV (As := [.int n, .int ((-9)), .int 1]) (rest := []) (q0 := 5) (ci := 6) ⟨hx, hb, hml, hown, htu⟩ ((w_run_all 60) l G S_2 al 0 0 0 0 N 1 n ((-9)) hC hw_3.2.1 tj_6 ((show 1 + 60 = 61 by decide)) H) (cwV 3 htu hU_X6_62 rfl rfl rfl (by decide +kernel) ⟨show (2 * 60 + 6) + 1 ≤ 300 by omega, show 8 + (4 + 11) + (60 * 60 + 200) ≤ 12000 by omega⟩) hP hK hD hC hpp cw_5 rfl rfl hl.1 rfl (lv_room (Nat.le_of_ble_eq_true rfl)) dX6_workProgram_10) hS hD hh hpp (fun r_7 S_8 H locs hw_9 hP hD hS hC hh hs_10 hpp => ?_)
  try dsimp only at hw_9
  have aw_11 : AW [27, 28, 29, 30, 31, 32, 33, 34] [111, 112] S_2 S_8 := hw_9.1
  have aw_11t : AW [27, 28, 29, 30, 31, 32, 33, 34] [110, 111, 112, 113, 202] S S_8 := aw_5t.tr (aw_11.mono (by decide) (by decide))
  have ii_12 : S_8.1 202 = 0 := (aw_11.1 202 (by decide)).trans hw_3.2.2
  have tj_13 : TJ S_8 N := TJ.aw tj_6 aw_11 (by decide)
  refine lv_istore_n (lv' := [(3, .int r_7), (0, .ref (ga G 5)), (1, .int n), (2, .int (nI al))]) hx hb dX6_workProgram_13 rfl hl (by decide) rfl (fun ls hl => ?_)
  refine lv_iload_n hx hb dX6_workProgram_14 rfl (lv_at hl 0 rfl) ?_
  refine lv_if_lt (tgt := 32) hx hb dX6_workProgram_15 (by decide) (fun c_14 => ?_) (fun c_14 => ?_)
  · skip
    refine lv_aload_n hx hb dX6_workProgram_32 rfl (lv_at hl 1 rfl) ?_
    refine lv_iload_n hx hb dX6_workProgram_33 rfl (lv_at hl 0 rfl) ?_
    refine lv_bipush (v := (-6)) hx hb dX6_workProgram_34 (by decide) ?_
    refine lv_icmp_ne (tgt := 43) hx hb dX6_workProgram_36 (by decide) (fun c_15 => ?_) (fun c_15 => ?_)
    · skip
      refine lv_iconst (v := 1) hx hb dX6_workProgram_43 (by decide) ?_
      refine c_put5_13 (x := 1) hx hb htu hown hK hP hD hS (htu _ C_161) dX6_workProgram_44 (fun H locs hP hD hS => ?_)
      have S_16h : HS S (cO S_8 113 1) := hh
      have S_16c : CL (cO S_8 113 1) := hC
      have S_16p : PT S ≤ PT (cO S_8 113 1) := hpp
      refine c_eq (S1 := S_8) (S2 := cO S_8 113 1) rfl ?_
      have S_16w : AW [27, 28, 29, 30, 31, 32, 33, 34] [110, 111, 112, 113, 202] S (cO S_8 113 1) := (AW.o aw_11t (by decide))
      have hh := S_16h
      have hC := S_16c
      have hpp := S_16p
      have tj_17 : TJ (cO S_8 113 1) N := tj_13
      refine lv_aload_n hx hb dX6_workProgram_47 rfl (lv_at hl 1 rfl) ?_
      refine va_get (D := gD G) (ci := 6) (v := .int 1) (C := RX6) (T := TX6) (N := 14) hx hb htu cu_in6 hown hK hP 5 cw_5 rfl 13 (by decide) (htu _ C_161) (fun _ h9 => h9) (m_v cO_s) dX6_workProgram_48 ?_
      exact c_iret (v := 1) hx hb hr hK hP hD hS hC hh hpp ⟨S_16w, ⟨_, ((cO_n (show 202 ≠ 113 by decide)).trans ii_12), Nat.zero_le _⟩⟩ dX6_workProgram_51 hlocks
    · skip
      refine lv_iconst (v := 2) hx hb dX6_workProgram_39 (by decide) ?_
      refine lv_goto (tgt := 44) hx hb dX6_workProgram_40 (by decide) ?_
      refine c_put5_13 (x := 2) hx hb htu hown hK hP hD hS (htu _ C_161) dX6_workProgram_44 (fun H locs hP hD hS => ?_)
      have S_18h : HS S (cO S_8 113 2) := hh
      have S_18c : CL (cO S_8 113 2) := hC
      have S_18p : PT S ≤ PT (cO S_8 113 2) := hpp
      refine c_eq (S1 := S_8) (S2 := cO S_8 113 2) rfl ?_
      have S_18w : AW [27, 28, 29, 30, 31, 32, 33, 34] [110, 111, 112, 113, 202] S (cO S_8 113 2) := (AW.o aw_11t (by decide))
      have hh := S_18h
      have hC := S_18c
      have hpp := S_18p
      have tj_19 : TJ (cO S_8 113 2) N := tj_13
      refine lv_aload_n hx hb dX6_workProgram_47 rfl (lv_at hl 1 rfl) ?_
      refine va_get (D := gD G) (ci := 6) (v := .int 2) (C := RX6) (T := TX6) (N := 14) hx hb htu cu_in6 hown hK hP 5 cw_5 rfl 13 (by decide) (htu _ C_161) (fun _ h9 => h9) (m_v cO_s) dX6_workProgram_48 ?_
      exact c_iret (v := 2) hx hb hr hK hP hD hS hC hh hpp ⟨S_18w, ⟨_, ((cO_n (show 202 ≠ 113 by decide)).trans ii_12), Nat.zero_le _⟩⟩ dX6_workProgram_51 hlocks
  · skip
    refine lv_aload_n hx hb dX6_workProgram_18 rfl (lv_at hl 1 rfl) ?_
    refine lv_iconst (v := 0) hx hb dX6_workProgram_19 (by decide) ?_
    refine c_put5_13 (x := 0) hx hb htu hown hK hP hD hS (htu _ C_161) dX6_workProgram_20 (fun H locs hP hD hS => ?_)
    have S_20h : HS S (cO S_8 113 0) := hh
    have S_20c : CL (cO S_8 113 0) := hC
    have S_20p : PT S ≤ PT (cO S_8 113 0) := hpp
    refine c_eq (S1 := S_8) (S2 := cO S_8 113 0) rfl ?_
    have S_20w : AW [27, 28, 29, 30, 31, 32, 33, 34] [110, 111, 112, 113, 202] S (cO S_8 113 0) := (AW.o aw_11t (by decide))
    have hh := S_20h
    have hC := S_20c
    have hpp := S_20p
    have tj_21 : TJ (cO S_8 113 0) N := tj_13
    refine lv_aload_n hx hb dX6_workProgram_23 rfl (lv_at hl 1 rfl) ?_
    refine lv_iload_n hx hb dX6_workProgram_24 rfl (lv_at hl 0 rfl) ?_
    refine lv_iconst (v := 1) hx hb dX6_workProgram_25 (by decide) ?_
    have hC0 := hC
    refine c_cv (c_runV (As := [.int r_7, .int 1]) (rest := []) (q0 := 5) (ci := 6) ⟨hx, hb, hml, hown, htu⟩ ((w_put_all 200) l G (cO S_8 113 0) 0 N 1 r_7 hC (((cO_n (show 202 ≠ 113 by decide)).trans ii_12)) ((Nat.zero_le _)) tj_21 ((show 1 + 200 = 201 by decide)) H) (cwV 2 htu hU_X6_66 rfl rfl rfl (by decide +kernel) ⟨show (200 + 8) + 1 ≤ 300 by omega, show 8 + (6 + 11) + (30 * 200 + 200) ≤ 12000 by omega⟩) hP hK hD hC hpp cw_5 rfl rfl hl.1 rfl (lv_room (Nat.le_of_ble_eq_true rfl)) dX6_workProgram_26) hS hD hh hpp (fun S_23 H locs hw_24 hP hD hS hC hh hs_25 hpp => ?_)
    try dsimp only at hw_24
    have aw_26 : AW [] [202] (cO S_8 113 0) S_23 := hw_24.1
    have aw_26t : AW [27, 28, 29, 30, 31, 32, 33, 34] [110, 111, 112, 113, 202] S S_23 := S_20w.tr (aw_26.mono (by decide) (by decide))
    have ii_27 : S_23.1 113 = 0 := (aw_26.1 113 (by decide)).trans cO_s
    have tj_28 : TJ S_23 N := TJ.aw tj_21 aw_26 (by decide)
    obtain ⟨sg_29, sg_291, sg_293⟩ := hw_24.2
    refine lv_goto (tgt := 47) hx hb dX6_workProgram_29 (by decide) ?_
    refine lv_aload_n hx hb dX6_workProgram_47 rfl (lv_at hl 1 rfl) ?_
    refine va_get (D := gD G) (ci := 6) (v := .int 0) (C := RX6) (T := TX6) (N := 14) hx hb htu cu_in6 hown hK hP 5 cw_5 rfl 13 (by decide) (htu _ C_161) (fun _ h9 => h9) (m_v ii_27) dX6_workProgram_48 ?_
    exact c_iret (v := 0) hx hb hr hK hP hD hS hC hh hpp ⟨aw_26t, ⟨_, sg_291, sg_293⟩⟩ dX6_workProgram_51 hlocks

