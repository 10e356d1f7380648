theorem dX2_begin_0 : decode cX2_begin 0 = .ok (.aload_n 0, 1) := by decide +kernel
theorem dX2_begin_1 : decode cX2_begin 1 = .ok (.getfield 39, 3) := by decide +kernel
theorem dX2_begin_4 : decode cX2_begin 4 = .ok (.iload_n 1, 1) := by decide +kernel
theorem dX2_begin_5 : decode cX2_begin 5 = .ok (.invokevirtual 65, 3) := by decide +kernel
theorem dX2_begin_8 : decode cX2_begin 8 = .ok (.tableswitch 76 0 3 #[32, 42, 52, 64], 32) := by decide +kernel
theorem dX2_begin_40 : decode cX2_begin 40 = .ok (.aload_n 0, 1) := by decide +kernel
theorem dX2_begin_41 : decode cX2_begin 41 = .ok (.getfield 35, 3) := by decide +kernel
theorem dX2_begin_44 : decode cX2_begin 44 = .ok (.bipush 119, 2) := by decide +kernel
theorem dX2_begin_46 : decode cX2_begin 46 = .ok (.invokevirtual 69, 3) := by decide +kernel
theorem dX2_begin_49 : decode cX2_begin 49 = .ok (.return_, 1) := by decide +kernel
theorem dX2_begin_50 : decode cX2_begin 50 = .ok (.aload_n 0, 1) := by decide +kernel
theorem dX2_begin_51 : decode cX2_begin 51 = .ok (.getfield 35, 3) := by decide +kernel
theorem dX2_begin_54 : decode cX2_begin 54 = .ok (.bipush 116, 2) := by decide +kernel
theorem dX2_begin_56 : decode cX2_begin 56 = .ok (.invokevirtual 69, 3) := by decide +kernel
theorem dX2_begin_59 : decode cX2_begin 59 = .ok (.return_, 1) := by decide +kernel
theorem dX2_begin_60 : decode cX2_begin 60 = .ok (.aload_n 0, 1) := by decide +kernel
theorem dX2_begin_61 : decode cX2_begin 61 = .ok (.getfield 35, 3) := by decide +kernel
theorem dX2_begin_64 : decode cX2_begin 64 = .ok (.bipush 62, 2) := by decide +kernel
theorem dX2_begin_66 : decode cX2_begin 66 = .ok (.invokevirtual 69, 3) := by decide +kernel
theorem dX2_begin_69 : decode cX2_begin 69 = .ok (.goto 93, 3) := by decide +kernel
theorem dX2_begin_162 : decode cX2_begin 162 = .ok (.aload_n 0, 1) := by decide +kernel
theorem dX2_begin_163 : decode cX2_begin 163 = .ok (.getfield 12, 3) := by decide +kernel
theorem dX2_begin_166 : decode cX2_begin 166 = .ok (.iload_n 1, 1) := by decide +kernel
theorem dX2_begin_167 : decode cX2_begin 167 = .ok (.invokevirtual 89, 3) := by decide +kernel
theorem dX2_begin_170 : decode cX2_begin 170 = .ok (.aload_n 0, 1) := by decide +kernel
theorem dX2_begin_171 : decode cX2_begin 171 = .ok (.getfield 18, 3) := by decide +kernel
theorem dX2_begin_174 : decode cX2_begin 174 = .ok (.iload_n 2, 1) := by decide +kernel
theorem dX2_begin_175 : decode cX2_begin 175 = .ok (.invokevirtual 89, 3) := by decide +kernel
theorem dX2_begin_178 : decode cX2_begin 178 = .ok (.aload_n 0, 1) := by decide +kernel
theorem dX2_begin_179 : decode cX2_begin 179 = .ok (.getfield 21, 3) := by decide +kernel
theorem dX2_begin_182 : decode cX2_begin 182 = .ok (.iconst 0, 1) := by decide +kernel
theorem dX2_begin_183 : decode cX2_begin 183 = .ok (.invokevirtual 89, 3) := by decide +kernel
theorem dX2_begin_186 : decode cX2_begin 186 = .ok (.return_, 1) := by decide +kernel
theorem dX2_begin_72 : decode cX2_begin 72 = .ok (.aload_n 0, 1) := by decide +kernel
theorem dX2_begin_73 : decode cX2_begin 73 = .ok (.getfield 35, 3) := by decide +kernel
theorem dX2_begin_76 : decode cX2_begin 76 = .ok (.bipush 123, 2) := by decide +kernel
theorem dX2_begin_78 : decode cX2_begin 78 = .ok (.invokevirtual 69, 3) := by decide +kernel
theorem dX2_begin_81 : decode cX2_begin 81 = .ok (.goto 81, 3) := by decide +kernel
theorem dX2_begin_84 : decode cX2_begin 84 = .ok (.iconst 2, 1) := by decide +kernel
theorem dX2_begin_85 : decode cX2_begin 85 = .ok (.aload_n 0, 1) := by decide +kernel
theorem dX2_begin_86 : decode cX2_begin 86 = .ok (.getfield 39, 3) := by decide +kernel
theorem dX2_begin_89 : decode cX2_begin 89 = .ok (.iload_n 1, 1) := by decide +kernel
theorem dX2_begin_90 : decode cX2_begin 90 = .ok (.invokevirtual 73, 3) := by decide +kernel
theorem dX2_begin_93 : decode cX2_begin 93 = .ok (.imul, 1) := by decide +kernel
theorem dX2_begin_94 : decode cX2_begin 94 = .ok (.iload_n 2, 1) := by decide +kernel
theorem dX2_begin_95 : decode cX2_begin 95 = .ok (.iadd, 1) := by decide +kernel
theorem dX2_begin_96 : decode cX2_begin 96 = .ok (.istore_n 3, 1) := by decide +kernel
theorem dX2_begin_97 : decode cX2_begin 97 = .ok (.aload_n 0, 1) := by decide +kernel
theorem dX2_begin_98 : decode cX2_begin 98 = .ok (.getfield 39, 3) := by decide +kernel
theorem dX2_begin_101 : decode cX2_begin 101 = .ok (.iload_n 1, 1) := by decide +kernel
theorem dX2_begin_102 : decode cX2_begin 102 = .ok (.iload_n 2, 1) := by decide +kernel
theorem dX2_begin_103 : decode cX2_begin 103 = .ok (.invokevirtual 76, 3) := by decide +kernel
theorem dX2_begin_106 : decode cX2_begin 106 = .ok (.getfield 51, 3) := by decide +kernel
theorem dX2_begin_109 : decode cX2_begin 109 = .ok (.ifCond .eq 15, 3) := by decide +kernel
theorem dX2_begin_124 : decode cX2_begin 124 = .ok (.aload_n 0, 1) := by decide +kernel
theorem dX2_begin_125 : decode cX2_begin 125 = .ok (.iload_n 1, 1) := by decide +kernel
theorem dX2_begin_126 : decode cX2_begin 126 = .ok (.invokevirtual 83, 3) := by decide +kernel
theorem dX2_begin_129 : decode cX2_begin 129 = .ok (.return_, 1) := by decide +kernel
theorem dX2_begin_112 : decode cX2_begin 112 = .ok (.aload_n 0, 1) := by decide +kernel
theorem dX2_begin_113 : decode cX2_begin 113 = .ok (.getfield 29, 3) := by decide +kernel
theorem dX2_begin_116 : decode cX2_begin 116 = .ok (.iload_n 3, 1) := by decide +kernel
theorem dX2_begin_117 : decode cX2_begin 117 = .ok (.invokevirtual 80, 3) := by decide +kernel
theorem dX2_begin_120 : decode cX2_begin 120 = .ok (.iconst 1, 1) := by decide +kernel
theorem dX2_begin_121 : decode cX2_begin 121 = .ok (.if_icmp .ne 9, 3) := by decide +kernel
theorem dX2_begin_130 : decode cX2_begin 130 = .ok (.aload_n 0, 1) := by decide +kernel
theorem dX2_begin_131 : decode cX2_begin 131 = .ok (.getfield 29, 3) := by decide +kernel
theorem dX2_begin_134 : decode cX2_begin 134 = .ok (.iload_n 3, 1) := by decide +kernel
theorem dX2_begin_135 : decode cX2_begin 135 = .ok (.iconst 1, 1) := by decide +kernel
theorem dX2_begin_136 : decode cX2_begin 136 = .ok (.invokevirtual 86, 3) := by decide +kernel
theorem dX2_begin_139 : decode cX2_begin 139 = .ok (.aload_n 0, 1) := by decide +kernel
theorem dX2_begin_140 : decode cX2_begin 140 = .ok (.getfield 35, 3) := by decide +kernel
theorem dX2_begin_143 : decode cX2_begin 143 = .ok (.iload_n 2, 1) := by decide +kernel
theorem dX2_begin_144 : decode cX2_begin 144 = .ok (.ifCond .ne 8, 3) := by decide +kernel
theorem dX2_begin_152 : decode cX2_begin 152 = .ok (.bipush 38, 2) := by decide +kernel
theorem dX2_begin_154 : decode cX2_begin 154 = .ok (.invokevirtual 69, 3) := by decide +kernel
theorem dX2_begin_157 : decode cX2_begin 157 = .ok (.aload_n 0, 1) := by decide +kernel
theorem dX2_begin_158 : decode cX2_begin 158 = .ok (.iload_n 1, 1) := by decide +kernel
theorem dX2_begin_159 : decode cX2_begin 159 = .ok (.invokevirtual 83, 3) := by decide +kernel
theorem dX2_begin_147 : decode cX2_begin 147 = .ok (.bipush 124, 2) := by decide +kernel
theorem dX2_begin_149 : decode cX2_begin 149 = .ok (.goto 5, 3) := by decide +kernel
theorem dX2_close_0 : decode cX2_close 0 = .ok (.aload_n 0, 1) := by decide +kernel
theorem dX2_close_1 : decode cX2_close 1 = .ok (.getfield 12, 3) := by decide +kernel
theorem dX2_close_4 : decode cX2_close 4 = .ok (.getfield 51, 3) := by decide +kernel
theorem dX2_close_7 : decode cX2_close 7 = .ok (.iconst 1, 1) := by decide +kernel
theorem dX2_close_8 : decode cX2_close 8 = .ok (.isub, 1) := by decide +kernel
theorem dX2_close_9 : decode cX2_close 9 = .ok (.istore_n 1, 1) := by decide +kernel
theorem dX2_close_10 : decode cX2_close 10 = .ok (.aload_n 0, 1) := by decide +kernel
theorem dX2_close_11 : decode cX2_close 11 = .ok (.getfield 12, 3) := by decide +kernel
theorem dX2_close_14 : decode cX2_close 14 = .ok (.iload_n 1, 1) := by decide +kernel
theorem dX2_close_15 : decode cX2_close 15 = .ok (.invokevirtual 80, 3) := by decide +kernel
theorem dX2_close_18 : decode cX2_close 18 = .ok (.istore_n 2, 1) := by decide +kernel
theorem dX2_close_19 : decode cX2_close 19 = .ok (.aload_n 0, 1) := by decide +kernel
theorem dX2_close_20 : decode cX2_close 20 = .ok (.getfield 39, 3) := by decide +kernel
theorem dX2_close_23 : decode cX2_close 23 = .ok (.iload_n 2, 1) := by decide +kernel
theorem dX2_close_24 : decode cX2_close 24 = .ok (.invokevirtual 65, 3) := by decide +kernel
theorem dX2_close_27 : decode cX2_close 27 = .ok (.iconst 4, 1) := by decide +kernel
theorem dX2_close_28 : decode cX2_close 28 = .ok (.if_icmp .ne 31, 3) := by decide +kernel
theorem dX2_close_59 : decode cX2_close 59 = .ok (.aload_n 0, 1) := by decide +kernel
theorem dX2_close_60 : decode cX2_close 60 = .ok (.getfield 12, 3) := by decide +kernel
theorem dX2_close_63 : decode cX2_close 63 = .ok (.iload_n 1, 1) := by decide +kernel
theorem dX2_close_64 : decode cX2_close 64 = .ok (.invokevirtual 114, 3) := by decide +kernel
theorem dX2_close_67 : decode cX2_close 67 = .ok (.aload_n 0, 1) := by decide +kernel
theorem dX2_close_68 : decode cX2_close 68 = .ok (.getfield 18, 3) := by decide +kernel
theorem dX2_close_71 : decode cX2_close 71 = .ok (.iload_n 1, 1) := by decide +kernel
theorem dX2_close_72 : decode cX2_close 72 = .ok (.invokevirtual 114, 3) := by decide +kernel
theorem dX2_close_75 : decode cX2_close 75 = .ok (.aload_n 0, 1) := by decide +kernel
theorem dX2_close_76 : decode cX2_close 76 = .ok (.getfield 21, 3) := by decide +kernel
theorem dX2_close_79 : decode cX2_close 79 = .ok (.iload_n 1, 1) := by decide +kernel
theorem dX2_close_80 : decode cX2_close 80 = .ok (.invokevirtual 114, 3) := by decide +kernel
theorem dX2_close_83 : decode cX2_close 83 = .ok (.return_, 1) := by decide +kernel
theorem dX2_close_31 : decode cX2_close 31 = .ok (.aload_n 0, 1) := by decide +kernel
theorem dX2_close_32 : decode cX2_close 32 = .ok (.getfield 29, 3) := by decide +kernel
theorem dX2_close_35 : decode cX2_close 35 = .ok (.iconst 2, 1) := by decide +kernel
theorem dX2_close_36 : decode cX2_close 36 = .ok (.aload_n 0, 1) := by decide +kernel
theorem dX2_close_37 : decode cX2_close 37 = .ok (.getfield 39, 3) := by decide +kernel
theorem dX2_close_40 : decode cX2_close 40 = .ok (.iload_n 2, 1) := by decide +kernel
theorem dX2_close_41 : decode cX2_close 41 = .ok (.invokevirtual 73, 3) := by decide +kernel
theorem dX2_close_44 : decode cX2_close 44 = .ok (.imul, 1) := by decide +kernel
theorem dX2_close_45 : decode cX2_close 45 = .ok (.aload_n 0, 1) := by decide +kernel
theorem dX2_close_46 : decode cX2_close 46 = .ok (.getfield 18, 3) := by decide +kernel
theorem dX2_close_49 : decode cX2_close 49 = .ok (.iload_n 1, 1) := by decide +kernel
theorem dX2_close_50 : decode cX2_close 50 = .ok (.invokevirtual 80, 3) := by decide +kernel
theorem dX2_close_53 : decode cX2_close 53 = .ok (.iadd, 1) := by decide +kernel
theorem dX2_close_54 : decode cX2_close 54 = .ok (.bipush (-9), 2) := by decide +kernel
theorem dX2_close_56 : decode cX2_close 56 = .ok (.invokevirtual 86, 3) := by decide +kernel
set_option maxHeartbeats 4000000 in
set_option maxRecDepth 100000 in
/-- begin -/
theorem l_begin_6 (l : Launch) (G : cG) (S : cS) (T : Nat) (V : Nat) (VP : Nat) (X : Nat) (Y : Nat) (Z : Nat) (O : Nat) (sn : Nat) (wy : Nat) (t : Int32) (hC : CL S) (hY : TY S T V VP X Y Z) (hVP : VP ≤ V) (hTS : kT S = ga G 6) (hTK : TK S 200 O sn) (hsp : sn < 400 ∨ O < sn) (hwy : wy < 2) (Hs : Heap) : Met l yX2_begin (wC yX2_begin cX2_begin 4 none) (cRm S 3 103) (cPc G S Hs [.ref (ga G 3), .int t, .int (nI wy)]) (cQv G S Hs (fun u => AW [19, 20, 21, 22] [200] S u ∧ (TG u 200 O sn))) (CC - PT S) (12 * (CC - PT S)) (cA G S Hs.size) := by
  refine Met.ofW (cc := cX2_begin) (maxL := 4) (ret := none) (by decide) rfl ?_
  intro p e s m args below meth c s₁ B hml hv
  obtain ⟨rfl, hsz, hP, hK, hD0, -⟩ := hv
  have hx := B.exec
  have hb := B.bytes
  have hr := B.returns
  have htu : ∀ w ∈ CU, w.before _ s = true := fun w h => atoms_spec (ws := (wC yX2_begin cX2_begin 4 none)) B.pre w (List.mem_cons_of_mem _ h)
  have hown : s.vm.findClass RX2 = some m.cls := findClass_of_methodNamed B.named
  have hlocks := B.notSynchronized
  subst hsz
  have hD : cD (cA G S s.heap.size) G S := cD_self hD0
  have hl := lv_entry ([.ref (ga G 3), .int t, .int (nI wy)]) (n := 4) (Nat.le_of_ble_eq_true rfl)
  rw [lg_entry_eq]
  generalize (lg_sl ([.ref (ga G 3), .int t, .int (nI wy)]) ++ List.replicate (4 - (lg_sl ([.ref (ga G 3), .int t, .int (nI wy)])).length) Slot.unset).toArray = ls at hl ⊢
  have hl : lv_has ls 4 [(0, .ref (ga G 3)), (1, .int t), (2, .int (nI wy))] := hl
  obtain ⟨H, hHe⟩ : ∃ H : Heap, H = s.heap := ⟨_, rfl⟩
  rw [← hHe] at hP
  have hS : va_S (cA G S s.heap.size) s.heap H [] := by rw [hHe]; exact va_S.rf
  have hh : HS S S := HS.rf
  have hpp : PT S ≤ PT S := Nat.le_refl _
  have hB9 := hC.1
  refine W.heq hHe ?_
  refine c_ent (S := S) ?_
  obtain ⟨⟨h19, h20, h21⟩, hn, hcap, hos, hw⟩ := id hTK
  refine lv_aload_n hx hb dX2_begin_0 rfl (lv_at hl 0 rfl) ?_
  refine va_get (D := gD G) (ci := 2) (v := .ref (ga G 2)) (C := RX2) (T := TX2) (N := 6) hx hb htu cu_in2 hown hK hP 3 cw_3 rfl 0 (by decide) (htu _ C_128) (fun _ h9 => h9) rfl dX2_begin_1 ?_
  refine lv_iload_n hx hb dX2_begin_4 rfl (lv_at hl 1 rfl) ?_
  have hC0 := hC
  refine c_ci (c_runV (As := [.int t]) (rest := []) (q0 := 2) (ci := 4) ⟨hx, hb, hml, hown, htu⟩ (y_sortOf l G S t hC  H) (cwV 1 htu hU_X2_65 rfl rfl rfl (by decide +kernel) ⟨Nat.le_of_ble_eq_true rfl, Nat.le_of_ble_eq_true rfl⟩) hP hK hD hC hpp cw_2 rfl rfl hl.1 rfl (lv_room (Nat.le_of_ble_eq_true rfl)) dX2_begin_5) hS hD hh hpp (fun r_1 S_2 H locs hw_3 hP hD hS hC hh hs_4 hpp => ?_)
  obtain ⟨-, hu9, hw_3⟩ := hw_3
  have hu9 := hu9.symm
  subst hu9
  rcases Decidable.em (r_1 = 0) with c_5 | c_5
  · skip
    refine lv_tableIn (tgt := 40) hx hb dX2_begin_8 (by rw [c_5]; decide) (by rw [c_5]; decide) (by rw [c_5]; rfl) (by decide) ?_
    refine lv_aload_n hx hb dX2_begin_40 rfl (lv_at hl 0 rfl) ?_
    refine va_get (D := gD G) (ci := 2) (v := .ref (ga G 6)) (C := RX2) (T := TX2) (N := 6) hx hb htu cu_in2 hown hK hP 3 cw_3 rfl 5 (by decide) (htu _ C_127) (fun _ h9 => h9) (c_hv hTS) dX2_begin_41 ?_
    refine lv_bipush (v := 119) hx hb dX2_begin_44 (by decide) ?_
    have hC0 := hC
    refine c_cv (c_runV (As := [.int 119]) (rest := []) (q0 := 6) (ci := 1) ⟨hx, hb, hml, hown, htu⟩ (s_put_6 l G S sn 119 hC hn hcap H) (cwV 1 htu hU_X2_69 rfl rfl rfl (by decide +kernel) ⟨Nat.le_of_ble_eq_true rfl, Nat.le_of_ble_eq_true rfl⟩) hP hK hD hC hpp cw_6 rfl rfl hl.1 rfl (lv_room (Nat.le_of_ble_eq_true rfl)) dX2_begin_46) hS hD hh hpp (fun S_7 H locs hw_8 hP hD hS hC hh hs_9 hpp => ?_)
    try dsimp only at hw_8
    have aw_10 : AW [] [200] S S_7 := hw_8.1
    have aw_10t : AW [19, 20, 21, 22] [200] S S_7 := AW.rf.tr (aw_10.mono (by decide) (by decide))
    have kk_11 : kK S_7 19 = O := (aw_10.2.1 19 (lt35 (by decide)) (by decide)).2.trans h19
    have kk_12 : kK S_7 20 = O := (aw_10.2.1 20 (lt35 (by decide)) (by decide)).2.trans h20
    have kk_13 : kK S_7 21 = O := (aw_10.2.1 21 (lt35 (by decide)) (by decide)).2.trans h21
    have wy_14 : W20 S_7 O := W20.aw hw aw_10 (by decide)
    have ty_15 := TY.aw hY aw_10 (by decide)
    obtain ⟨sg_16, sg_161, sg_162, sg_163, sg_164⟩ := hw_8.2
    have tk_17 := TK.sg hTK aw_10 (by decide) sg_161 sg_162 sg_163
    exact c_vret hx hb hr hK hP hD hS hC hh hpp ⟨aw_10t, ⟨O, sg_16, tk_17, sg_162, Nat.le_succ _, sg_164⟩⟩ dX2_begin_49 hlocks
  rcases Decidable.em (r_1 = 1) with c_18 | c_18
  · skip
    refine lv_tableIn (tgt := 50) hx hb dX2_begin_8 (by rw [c_18]; decide) (by rw [c_18]; decide) (by rw [c_18]; rfl) (by decide) ?_
    refine lv_aload_n hx hb dX2_begin_50 rfl (lv_at hl 0 rfl) ?_
    refine va_get (D := gD G) (ci := 2) (v := .ref (ga G 6)) (C := RX2) (T := TX2) (N := 6) hx hb htu cu_in2 hown hK hP 3 cw_3 rfl 5 (by decide) (htu _ C_127) (fun _ h9 => h9) (c_hv hTS) dX2_begin_51 ?_
    refine lv_bipush (v := 116) hx hb dX2_begin_54 (by decide) ?_
    have hC0 := hC
    refine c_cv (c_runV (As := [.int 116]) (rest := []) (q0 := 6) (ci := 1) ⟨hx, hb, hml, hown, htu⟩ (s_put_6 l G S sn 116 hC hn hcap H) (cwV 1 htu hU_X2_69 rfl rfl rfl (by decide +kernel) ⟨Nat.le_of_ble_eq_true rfl, Nat.le_of_ble_eq_true rfl⟩) hP hK hD hC hpp cw_6 rfl rfl hl.1 rfl (lv_room (Nat.le_of_ble_eq_true rfl)) dX2_begin_56) hS hD hh hpp (fun S_20 H locs hw_21 hP hD hS hC hh hs_22 hpp => ?_)
    try dsimp only at hw_21
    have aw_23 : AW [] [200] S S_20 := hw_21.1
    have aw_23t : AW [19, 20, 21, 22] [200] S S_20 := AW.rf.tr (aw_23.mono (by decide) (by decide))
    have kk_24 : kK S_20 19 = O := (aw_23.2.1 19 (lt35 (by decide)) (by decide)).2.trans h19
    have kk_25 : kK S_20 20 = O := (aw_23.2.1 20 (lt35 (by decide)) (by decide)).2.trans h20
    have kk_26 : kK S_20 21 = O := (aw_23.2.1 21 (lt35 (by decide)) (by decide)).2.trans h21
    have wy_27 : W20 S_20 O := W20.aw hw aw_23 (by decide)
    have ty_28 := TY.aw hY aw_23 (by decide)
    obtain ⟨sg_29, sg_291, sg_292, sg_293, sg_294⟩ := hw_21.2
    have tk_30 := TK.sg hTK aw_23 (by decide) sg_291 sg_292 sg_293
    exact c_vret hx hb hr hK hP hD hS hC hh hpp ⟨aw_23t, ⟨O, sg_29, tk_30, sg_292, Nat.le_succ _, sg_294⟩⟩ dX2_begin_59 hlocks
  rcases Decidable.em (r_1 = 2) with c_31 | c_31
  · skip
    refine lv_tableIn (tgt := 60) hx hb dX2_begin_8 (by rw [c_31]; decide) (by rw [c_31]; decide) (by rw [c_31]; rfl) (by decide) ?_
    refine lv_aload_n hx hb dX2_begin_60 rfl (lv_at hl 0 rfl) ?_
    refine va_get (D := gD G) (ci := 2) (v := .ref (ga G 6)) (C := RX2) (T := TX2) (N := 6) hx hb htu cu_in2 hown hK hP 3 cw_3 rfl 5 (by decide) (htu _ C_127) (fun _ h9 => h9) (c_hv hTS) dX2_begin_61 ?_
    refine lv_bipush (v := 62) hx hb dX2_begin_64 (by decide) ?_
    have hC0 := hC
    refine c_cv (c_runV (As := [.int 62]) (rest := []) (q0 := 6) (ci := 1) ⟨hx, hb, hml, hown, htu⟩ (s_put_6 l G S sn 62 hC hn hcap H) (cwV 1 htu hU_X2_69 rfl rfl rfl (by decide +kernel) ⟨Nat.le_of_ble_eq_true rfl, Nat.le_of_ble_eq_true rfl⟩) hP hK hD hC hpp cw_6 rfl rfl hl.1 rfl (lv_room (Nat.le_of_ble_eq_true rfl)) dX2_begin_66) hS hD hh hpp (fun S_33 H locs hw_34 hP hD hS hC hh hs_35 hpp => ?_)
    try dsimp only at hw_34
    have aw_36 : AW [] [200] S S_33 := hw_34.1
    have aw_36t : AW [19, 20, 21, 22] [200] S S_33 := AW.rf.tr (aw_36.mono (by decide) (by decide))
    have kk_37 : kK S_33 19 = O := (aw_36.2.1 19 (lt35 (by decide)) (by decide)).2.trans h19
    have kk_38 : kK S_33 20 = O := (aw_36.2.1 20 (lt35 (by decide)) (by decide)).2.trans h20
    have kk_39 : kK S_33 21 = O := (aw_36.2.1 21 (lt35 (by decide)) (by decide)).2.trans h21
    have wy_40 : W20 S_33 O := W20.aw hw aw_36 (by decide)
    have ty_41 := TY.aw hY aw_36 (by decide)
    obtain ⟨sg_42, sg_421, sg_422, sg_423, sg_424⟩ := hw_34.2
    have tk_43 := TK.sg hTK aw_36 (by decide) sg_421 sg_422 sg_423
    refine lv_goto (tgt := 162) hx hb dX2_begin_69 (by decide) ?_
    have ho4 : O < 400 := tb_1 hos hsp hcap
    have hto : O + 1 ≤ sg_42 := tb_2 hos hsp sg_422 sg_424
    refine lv_aload_n hx hb dX2_begin_162 rfl (lv_at hl 0 rfl) ?_
    refine va_get (D := gD G) (ci := 2) (v := .ref (kH S 19)) (C := RX2) (T := TX2) (N := 6) hx hb htu cu_in2 hown hK hP 3 cw_3 rfl 1 (by decide) (htu _ C_122) (fun _ h9 => h9) (c_hv (hh.2 19 (lt35 (by decide)))) dX2_begin_163 ?_
    refine lv_iload_n hx hb dX2_begin_166 rfl (lv_at hl 1 rfl) ?_
    have hC0 := hC
    refine c_cv (c_runV (As := [.int t]) (rest := []) (q0 := (2 * 19 + 13)) (ci := 0) ⟨hx, hb, hml, hown, htu⟩ (c_addA l G S_33 19 (lt35 (by decide)) hC (kH S 19) (hh.2 19 (lt35 (by decide))) t (tb_3 kk_37 ho4 lim_19) H) (cwV 1 htu hU_X2_89 rfl rfl rfl (by decide +kernel) ⟨Nat.le_of_ble_eq_true rfl, Nat.le_of_ble_eq_true rfl⟩) hP hK hD hC hpp (c_hd (hh.2 19 (lt35 (by decide))) (cw_row (lt35 (by decide)))) rfl rfl hl.1 rfl (lv_room (Nat.le_of_ble_eq_true rfl)) dX2_begin_167) hS hD hh hpp (fun S_45 H locs hw_46 hP hD hS hC hh hs_47 hpp => ?_)
    try dsimp only at hw_46
    have aw_48 : AW [19] [] S_33 S_45 := (by obtain ⟨_, _, _, h9, -, -⟩ := hw_46; rw [h9]; exact AW.u (by decide))
    have aw_48t : AW [19, 20, 21, 22] [200] S S_45 := aw_36t.tr (aw_48.mono (by decide) (by decide))
    have kk_49 : kK S_45 20 = O := (aw_48.2.1 20 (lt35 (by decide)) (by decide)).2.trans kk_38
    have kk_50 : kK S_45 21 = O := (aw_48.2.1 21 (lt35 (by decide)) (by decide)).2.trans kk_39
    have ii_51 : S_45.1 200 = nI sg_42 := (aw_48.1 200 (by decide)).trans sg_421
    have wy_52 : W20 S_45 O := W20.aw wy_40 aw_48 (by decide)
    have ty_53 := TY.aw ty_41 aw_48 (by decide)
    obtain ⟨ad_54n, ad_54q, ad_54g, ad_54u, ad_541, ad_542⟩ := hw_46
    have kk_55 : kK S_45 19 = O + 1 := by rw [ad_54u]; exact uR_K.trans (congrArg (· + 1) kk_37)
    refine lv_aload_n hx hb dX2_begin_170 rfl (lv_at hl 0 rfl) ?_
    refine va_get (D := gD G) (ci := 2) (v := .ref (kH S 20)) (C := RX2) (T := TX2) (N := 6) hx hb htu cu_in2 hown hK hP 3 cw_3 rfl 2 (by decide) (htu _ C_123) (fun _ h9 => h9) (c_hv (hh.2 20 (lt35 (by decide)))) dX2_begin_171 ?_
    refine lv_iload_n hx hb dX2_begin_174 rfl (lv_at hl 2 rfl) ?_
    have hC0 := hC
    refine c_cv (c_runV (As := [.int (nI wy)]) (rest := []) (q0 := (2 * 20 + 13)) (ci := 0) ⟨hx, hb, hml, hown, htu⟩ (c_addA l G S_45 20 (lt35 (by decide)) hC (kH S 20) (hh.2 20 (lt35 (by decide))) (nI wy) (tb_3 kk_49 ho4 lim_20) H) (cwV 1 htu hU_X2_89 rfl rfl rfl (by decide +kernel) ⟨Nat.le_of_ble_eq_true rfl, Nat.le_of_ble_eq_true rfl⟩) hP hK hD hC hpp (c_hd (hh.2 20 (lt35 (by decide))) (cw_row (lt35 (by decide)))) rfl rfl hl.1 rfl (lv_room (Nat.le_of_ble_eq_true rfl)) dX2_begin_175) hS hD hh hpp (fun S_57 H locs hw_58 hP hD hS hC hh hs_59 hpp => ?_)
    try dsimp only at hw_58
    have aw_60 : AW [20] [] S_45 S_57 := (by obtain ⟨_, _, _, h9, -, -⟩ := hw_58; rw [h9]; exact AW.u (by decide))
    have aw_60t : AW [19, 20, 21, 22] [200] S S_57 := aw_48t.tr (aw_60.mono (by decide) (by decide))
    have kk_61 : kK S_57 21 = O := (aw_60.2.1 21 (lt35 (by decide)) (by decide)).2.trans kk_50
    have kk_62 : kK S_57 19 = O + 1 := (aw_60.2.1 19 (lt35 (by decide)) (by decide)).2.trans kk_55
    have ii_63 : S_57.1 200 = nI sg_42 := (aw_60.1 200 (by decide)).trans ii_51
    have ty_64 := TY.aw ty_53 aw_60 (by decide)
    obtain ⟨ad_65n, ad_65q, ad_65g, ad_65u, ad_651, ad_652⟩ := hw_58
    have kk_66 : kK S_57 20 = O + 1 := by rw [ad_65u]; exact uR_K.trans (congrArg (· + 1) kk_49)
    have wy_67 := W20.push wy_52 kk_49 ad_65u ad_651 ad_652 hwy
    refine lv_aload_n hx hb dX2_begin_178 rfl (lv_at hl 0 rfl) ?_
    refine va_get (D := gD G) (ci := 2) (v := .ref (kH S 21)) (C := RX2) (T := TX2) (N := 6) hx hb htu cu_in2 hown hK hP 3 cw_3 rfl 3 (by decide) (htu _ C_124) (fun _ h9 => h9) (c_hv (hh.2 21 (lt35 (by decide)))) dX2_begin_179 ?_
    refine lv_iconst (v := 0) hx hb dX2_begin_182 (by decide) ?_
    have hC0 := hC
    refine c_cv (c_runV (As := [.int 0]) (rest := []) (q0 := (2 * 21 + 13)) (ci := 0) ⟨hx, hb, hml, hown, htu⟩ (c_addA l G S_57 21 (lt35 (by decide)) hC (kH S 21) (hh.2 21 (lt35 (by decide))) 0 (tb_3 kk_61 ho4 lim_21) H) (cwV 1 htu hU_X2_89 rfl rfl rfl (by decide +kernel) ⟨Nat.le_of_ble_eq_true rfl, Nat.le_of_ble_eq_true rfl⟩) hP hK hD hC hpp (c_hd (hh.2 21 (lt35 (by decide))) (cw_row (lt35 (by decide)))) rfl rfl hl.1 rfl (lv_room (Nat.le_of_ble_eq_true rfl)) dX2_begin_183) hS hD hh hpp (fun S_69 H locs hw_70 hP hD hS hC hh hs_71 hpp => ?_)
    try dsimp only at hw_70
    have aw_72 : AW [21] [] S_57 S_69 := (by obtain ⟨_, _, _, h9, -, -⟩ := hw_70; rw [h9]; exact AW.u (by decide))
    have aw_72t : AW [19, 20, 21, 22] [200] S S_69 := aw_60t.tr (aw_72.mono (by decide) (by decide))
    have kk_73 : kK S_69 19 = O + 1 := (aw_72.2.1 19 (lt35 (by decide)) (by decide)).2.trans kk_62
    have kk_74 : kK S_69 20 = O + 1 := (aw_72.2.1 20 (lt35 (by decide)) (by decide)).2.trans kk_66
    have ii_75 : S_69.1 200 = nI sg_42 := (aw_72.1 200 (by decide)).trans ii_63
    have wy_76 : W20 S_69 (O + 1) := W20.aw wy_67 aw_72 (by decide)
    have ty_77 := TY.aw ty_64 aw_72 (by decide)
    obtain ⟨ad_78n, ad_78q, ad_78g, ad_78u, ad_781, ad_782⟩ := hw_70
    have kk_79 : kK S_69 21 = O + 1 := by rw [ad_78u]; exact uR_K.trans (congrArg (· + 1) kk_61)
    exact c_vret hx hb hr hK hP hD hS hC hh hpp ⟨aw_72t, ⟨O + 1, sg_42, ⟨⟨kk_73, kk_74, kk_79⟩, ii_75, sg_423, hto, wy_76⟩, sg_422, Nat.le_refl _, sg_424⟩⟩ dX2_begin_186 hlocks
  rcases Decidable.em (r_1 = 3) with c_80 | c_80
  · skip
    refine lv_tableIn (tgt := 72) hx hb dX2_begin_8 (by rw [c_80]; decide) (by rw [c_80]; decide) (by rw [c_80]; rfl) (by decide) ?_
    refine lv_aload_n hx hb dX2_begin_72 rfl (lv_at hl 0 rfl) ?_
    refine va_get (D := gD G) (ci := 2) (v := .ref (ga G 6)) (C := RX2) (T := TX2) (N := 6) hx hb htu cu_in2 hown hK hP 3 cw_3 rfl 5 (by decide) (htu _ C_127) (fun _ h9 => h9) (c_hv hTS) dX2_begin_73 ?_
    refine lv_bipush (v := 123) hx hb dX2_begin_76 (by decide) ?_
    have hC0 := hC
    refine c_cv (c_runV (As := [.int 123]) (rest := []) (q0 := 6) (ci := 1) ⟨hx, hb, hml, hown, htu⟩ (s_put_6 l G S sn 123 hC hn hcap H) (cwV 1 htu hU_X2_69 rfl rfl rfl (by decide +kernel) ⟨Nat.le_of_ble_eq_true rfl, Nat.le_of_ble_eq_true rfl⟩) hP hK hD hC hpp cw_6 rfl rfl hl.1 rfl (lv_room (Nat.le_of_ble_eq_true rfl)) dX2_begin_78) hS hD hh hpp (fun S_82 H locs hw_83 hP hD hS hC hh hs_84 hpp => ?_)
    try dsimp only at hw_83
    have aw_85 : AW [] [200] S S_82 := hw_83.1
    have aw_85t : AW [19, 20, 21, 22] [200] S S_82 := AW.rf.tr (aw_85.mono (by decide) (by decide))
    have kk_86 : kK S_82 19 = O := (aw_85.2.1 19 (lt35 (by decide)) (by decide)).2.trans h19
    have kk_87 : kK S_82 20 = O := (aw_85.2.1 20 (lt35 (by decide)) (by decide)).2.trans h20
    have kk_88 : kK S_82 21 = O := (aw_85.2.1 21 (lt35 (by decide)) (by decide)).2.trans h21
    have wy_89 : W20 S_82 O := W20.aw hw aw_85 (by decide)
    have ty_90 := TY.aw hY aw_85 (by decide)
    obtain ⟨sg_91, sg_911, sg_912, sg_913, sg_914⟩ := hw_83.2
    have tk_92 := TK.sg hTK aw_85 (by decide) sg_911 sg_912 sg_913
    refine lv_goto (tgt := 162) hx hb dX2_begin_81 (by decide) ?_
    have ho4 : O < 400 := tb_1 hos hsp hcap
    have hto : O + 1 ≤ sg_91 := tb_2 hos hsp sg_912 sg_914
    refine lv_aload_n hx hb dX2_begin_162 rfl (lv_at hl 0 rfl) ?_
    refine va_get (D := gD G) (ci := 2) (v := .ref (kH S 19)) (C := RX2) (T := TX2) (N := 6) hx hb htu cu_in2 hown hK hP 3 cw_3 rfl 1 (by decide) (htu _ C_122) (fun _ h9 => h9) (c_hv (hh.2 19 (lt35 (by decide)))) dX2_begin_163 ?_
    refine lv_iload_n hx hb dX2_begin_166 rfl (lv_at hl 1 rfl) ?_
    have hC0 := hC
    refine c_cv (c_runV (As := [.int t]) (rest := []) (q0 := (2 * 19 + 13)) (ci := 0) ⟨hx, hb, hml, hown, htu⟩ (c_addA l G S_82 19 (lt35 (by decide)) hC (kH S 19) (hh.2 19 (lt35 (by decide))) t (tb_3 kk_86 ho4 lim_19) H) (cwV 1 htu hU_X2_89 rfl rfl rfl (by decide +kernel) ⟨Nat.le_of_ble_eq_true rfl, Nat.le_of_ble_eq_true rfl⟩) hP hK hD hC hpp (c_hd (hh.2 19 (lt35 (by decide))) (cw_row (lt35 (by decide)))) rfl rfl hl.1 rfl (lv_room (Nat.le_of_ble_eq_true rfl)) dX2_begin_167) hS hD hh hpp (fun S_94 H locs hw_95 hP hD hS hC hh hs_96 hpp => ?_)
    try dsimp only at hw_95
    have aw_97 : AW [19] [] S_82 S_94 := (by obtain ⟨_, _, _, h9, -, -⟩ := hw_95; rw [h9]; exact AW.u (by decide))
    have aw_97t : AW [19, 20, 21, 22] [200] S S_94 := aw_85t.tr (aw_97.mono (by decide) (by decide))
    have kk_98 : kK S_94 20 = O := (aw_97.2.1 20 (lt35 (by decide)) (by decide)).2.trans kk_87
    have kk_99 : kK S_94 21 = O := (aw_97.2.1 21 (lt35 (by decide)) (by decide)).2.trans kk_88
    have ii_100 : S_94.1 200 = nI sg_91 := (aw_97.1 200 (by decide)).trans sg_911
    have wy_101 : W20 S_94 O := W20.aw wy_89 aw_97 (by decide)
    have ty_102 := TY.aw ty_90 aw_97 (by decide)
    obtain ⟨ad_103n, ad_103q, ad_103g, ad_103u, ad_1031, ad_1032⟩ := hw_95
    have kk_104 : kK S_94 19 = O + 1 := by rw [ad_103u]; exact uR_K.trans (congrArg (· + 1) kk_86)
    refine lv_aload_n hx hb dX2_begin_170 rfl (lv_at hl 0 rfl) ?_
    refine va_get (D := gD G) (ci := 2) (v := .ref (kH S 20)) (C := RX2) (T := TX2) (N := 6) hx hb htu cu_in2 hown hK hP 3 cw_3 rfl 2 (by decide) (htu _ C_123) (fun _ h9 => h9) (c_hv (hh.2 20 (lt35 (by decide)))) dX2_begin_171 ?_
    refine lv_iload_n hx hb dX2_begin_174 rfl (lv_at hl 2 rfl) ?_
    have hC0 := hC
    refine c_cv (c_runV (As := [.int (nI wy)]) (rest := []) (q0 := (2 * 20 + 13)) (ci := 0) ⟨hx, hb, hml, hown, htu⟩ (c_addA l G S_94 20 (lt35 (by decide)) hC (kH S 20) (hh.2 20 (lt35 (by decide))) (nI wy) (tb_3 kk_98 ho4 lim_20) H) (cwV 1 htu hU_X2_89 rfl rfl rfl (by decide +kernel) ⟨Nat.le_of_ble_eq_true rfl, Nat.le_of_ble_eq_true rfl⟩) hP hK hD hC hpp (c_hd (hh.2 20 (lt35 (by decide))) (cw_row (lt35 (by decide)))) rfl rfl hl.1 rfl (lv_room (Nat.le_of_ble_eq_true rfl)) dX2_begin_175) hS hD hh hpp (fun S_106 H locs hw_107 hP hD hS hC hh hs_108 hpp => ?_)
    try dsimp only at hw_107
    have aw_109 : AW [20] [] S_94 S_106 := (by obtain ⟨_, _, _, h9, -, -⟩ := hw_107; rw [h9]; exact AW.u (by decide))
    have aw_109t : AW [19, 20, 21, 22] [200] S S_106 := aw_97t.tr (aw_109.mono (by decide) (by decide))
    have kk_110 : kK S_106 21 = O := (aw_109.2.1 21 (lt35 (by decide)) (by decide)).2.trans kk_99
    have kk_111 : kK S_106 19 = O + 1 := (aw_109.2.1 19 (lt35 (by decide)) (by decide)).2.trans kk_104
    have ii_112 : S_106.1 200 = nI sg_91 := (aw_109.1 200 (by decide)).trans ii_100
    have ty_113 := TY.aw ty_102 aw_109 (by decide)
    obtain ⟨ad_114n, ad_114q, ad_114g, ad_114u, ad_1141, ad_1142⟩ := hw_107
    have kk_115 : kK S_106 20 = O + 1 := by rw [ad_114u]; exact uR_K.trans (congrArg (· + 1) kk_98)
    have wy_116 := W20.push wy_101 kk_98 ad_114u ad_1141 ad_1142 hwy
    refine lv_aload_n hx hb dX2_begin_178 rfl (lv_at hl 0 rfl) ?_
    refine va_get (D := gD G) (ci := 2) (v := .ref (kH S 21)) (C := RX2) (T := TX2) (N := 6) hx hb htu cu_in2 hown hK hP 3 cw_3 rfl 3 (by decide) (htu _ C_124) (fun _ h9 => h9) (c_hv (hh.2 21 (lt35 (by decide)))) dX2_begin_179 ?_
    refine lv_iconst (v := 0) hx hb dX2_begin_182 (by decide) ?_
    have hC0 := hC
    refine c_cv (c_runV (As := [.int 0]) (rest := []) (q0 := (2 * 21 + 13)) (ci := 0) ⟨hx, hb, hml, hown, htu⟩ (c_addA l G S_106 21 (lt35 (by decide)) hC (kH S 21) (hh.2 21 (lt35 (by decide))) 0 (tb_3 kk_110 ho4 lim_21) H) (cwV 1 htu hU_X2_89 rfl rfl rfl (by decide +kernel) ⟨Nat.le_of_ble_eq_true rfl, Nat.le_of_ble_eq_true rfl⟩) hP hK hD hC hpp (c_hd (hh.2 21 (lt35 (by decide))) (cw_row (lt35 (by decide)))) rfl rfl hl.1 rfl (lv_room (Nat.le_of_ble_eq_true rfl)) dX2_begin_183) hS hD hh hpp (fun S_118 H locs hw_119 hP hD hS hC hh hs_120 hpp => ?_)
    try dsimp only at hw_119
    have aw_121 : AW [21] [] S_106 S_118 := (by obtain ⟨_, _, _, h9, -, -⟩ := hw_119; rw [h9]; exact AW.u (by decide))
    have aw_121t : AW [19, 20, 21, 22] [200] S S_118 := aw_109t.tr (aw_121.mono (by decide) (by decide))
    have kk_122 : kK S_118 19 = O + 1 := (aw_121.2.1 19 (lt35 (by decide)) (by decide)).2.trans kk_111
    have kk_123 : kK S_118 20 = O + 1 := (aw_121.2.1 20 (lt35 (by decide)) (by decide)).2.trans kk_115
    have ii_124 : S_118.1 200 = nI sg_91 := (aw_121.1 200 (by decide)).trans ii_112
    have wy_125 : W20 S_118 (O + 1) := W20.aw wy_116 aw_121 (by decide)
    have ty_126 := TY.aw ty_113 aw_121 (by decide)
    obtain ⟨ad_127n, ad_127q, ad_127g, ad_127u, ad_1271, ad_1272⟩ := hw_119
    have kk_128 : kK S_118 21 = O + 1 := by rw [ad_127u]; exact uR_K.trans (congrArg (· + 1) kk_110)
    exact c_vret hx hb hr hK hP hD hS hC hh hpp ⟨aw_121t, ⟨O + 1, sg_91, ⟨⟨kk_122, kk_123, kk_128⟩, ii_124, sg_913, hto, wy_125⟩, sg_912, Nat.le_refl _, sg_914⟩⟩ dX2_begin_186 hlocks
  have hout : (r_1).toInt < 0 ∨ 3 < (r_1).toInt := tb_out r_1 0 3 (fun z h1 h2 e => by
    rcases (show z = 0 ∨ z = 1 ∨ z = 2 ∨ z = 3 by omega) with rfl | rfl | rfl | rfl
    · exact c_5 (Int32.toInt_inj.mp (e.trans (by decide)))
    · exact c_18 (Int32.toInt_inj.mp (e.trans (by decide)))
    · exact c_31 (Int32.toInt_inj.mp (e.trans (by decide)))
    · exact c_80 (Int32.toInt_inj.mp (e.trans (by decide))))
  refine lv_tableOut (tgt := 84) hx hb dX2_begin_8 hout (by decide) ?_
  refine lv_iconst (v := 2) hx hb dX2_begin_84 (by decide) ?_
  refine lv_aload_n hx hb dX2_begin_85 rfl (lv_at hl 0 rfl) ?_
  refine va_get (D := gD G) (ci := 2) (v := .ref (ga G 2)) (C := RX2) (T := TX2) (N := 6) hx hb htu cu_in2 hown hK hP 3 cw_3 rfl 0 (by decide) (htu _ C_128) (fun _ h9 => h9) rfl dX2_begin_86 ?_
  refine lv_iload_n hx hb dX2_begin_89 rfl (lv_at hl 1 rfl) ?_
  have hC0 := hC
  refine c_ci (c_runV (As := [.int t]) (rest := [.int 2]) (q0 := 2) (ci := 4) ⟨hx, hb, hml, hown, htu⟩ (y_numberOf l G S t hC  H) (cwV 1 htu hU_X2_73 rfl rfl rfl (by decide +kernel) ⟨Nat.le_of_ble_eq_true rfl, Nat.le_of_ble_eq_true rfl⟩) hP hK hD hC hpp cw_2 rfl rfl hl.1 rfl (lv_room (Nat.le_of_ble_eq_true rfl)) dX2_begin_90) hS hD hh hpp (fun r_129 S_130 H locs hw_131 hP hD hS hC hh hs_132 hpp => ?_)
  obtain ⟨-, hu9⟩ := hw_131
  have hu9 := hu9.symm
  subst hu9
  refine lv_imul hx hb dX2_begin_93 ?_
  refine lv_topi (fun f_133 ef_133 => ?_)
  refine lv_iload_n hx hb dX2_begin_94 rfl (lv_at hl 2 rfl) ?_
  refine lv_iadd hx hb dX2_begin_95 ?_
  refine lv_topi (fun f_134 ef_134 => ?_)
  refine lv_istore_n (lv' := [(3, .int f_134), (0, .ref (ga G 3)), (1, .int t), (2, .int (nI wy))]) hx hb dX2_begin_96 rfl hl (by decide) rfl (fun ls hl => ?_)
  refine lv_aload_n hx hb dX2_begin_97 rfl (lv_at hl 1 rfl) ?_
  refine va_get (D := gD G) (ci := 2) (v := .ref (ga G 2)) (C := RX2) (T := TX2) (N := 6) hx hb htu cu_in2 hown hK hP 3 cw_3 rfl 0 (by decide) (htu _ C_128) (fun _ h9 => h9) rfl dX2_begin_98 ?_
  refine lv_iload_n hx hb dX2_begin_101 rfl (lv_at hl 2 rfl) ?_
  refine lv_iload_n hx hb dX2_begin_102 rfl (lv_at hl 3 rfl) ?_
  have hC0 := hC
  refine c_cr (c_runV (As := [.int t, .int (nI wy)]) (rest := []) (q0 := 2) (ci := 4) ⟨hx, hb, hml, hown, htu⟩ (y_boundsOf l G S T V VP X Y Z t wy hC hY ((by omega)) hwy H) (cwV 2 htu hU_X2_76 rfl rfl rfl (by decide +kernel) ⟨Nat.le_of_ble_eq_true rfl, Nat.le_of_ble_eq_true rfl⟩) hP hK hD hC hpp cw_2 rfl rfl hl.1 rfl (lv_room (Nat.le_of_ble_eq_true rfl)) dX2_begin_103) hS hD hh hpp (fun r_135 S_136 H locs hw_137 hP hD hS hC hh hs_138 hpp => ?_)
  obtain ⟨-, hu9, hw_137⟩ := hw_137
  have hu9 := hu9.symm
  subst hu9
  obtain ⟨br_139r, br_139e, br_1391⟩ := hw_137
  have br_139b := hY.2.1.2.2.1
  have br_139l : br_139r < 35 + kB S := bnd_lt br_1391 br_139b hwy
  have br_139h : kH S br_139r = r_135 := br_139e.symm
  refine va_get (D := gD G) (ci := 0) (v := .int (nI (kK S br_139r))) (C := RX0) (T := TX0) (N := 2) hx hb htu cu_in0 hown hK hP (2 * br_139r + 13) (c_hd br_139h (cw_row br_139l)) rfl 1 (by decide) (htu _ C_450) (fun _ h9 => h9) rfl dX2_begin_106 ?_
  refine lv_if_eq (tgt := 124) hx hb dX2_begin_109 (by decide) (fun c_140 => ?_) (fun c_140 => ?_)
  · skip
    refine lv_aload_n hx hb dX2_begin_124 rfl (lv_at hl 1 rfl) ?_
    refine lv_iload_n hx hb dX2_begin_125 rfl (lv_at hl 2 rfl) ?_
    have hC0 := hC
    refine c_cv (c_runV (As := [.int t]) (rest := []) (q0 := 3) (ci := 2) ⟨hx, hb, hml, hown, htu⟩ (l_putNumber_6 l G S sn t hC hTS hn hcap H) (cwV 1 htu hU_X2_83 rfl rfl rfl (by decide +kernel) ⟨Nat.le_of_ble_eq_true rfl, Nat.le_of_ble_eq_true rfl⟩) hP hK hD hC hpp cw_3 rfl rfl hl.1 rfl (lv_room (Nat.le_of_ble_eq_true rfl)) dX2_begin_126) hS hD hh hpp (fun S_142 H locs hw_143 hP hD hS hC hh hs_144 hpp => ?_)
    try dsimp only at hw_143
    have aw_145 : AW [] [200] S S_142 := hw_143.1
    have aw_145t : AW [19, 20, 21, 22] [200] S S_142 := AW.rf.tr (aw_145.mono (by decide) (by decide))
    have kk_146 : kK S_142 19 = O := (aw_145.2.1 19 (lt35 (by decide)) (by decide)).2.trans h19
    have kk_147 : kK S_142 20 = O := (aw_145.2.1 20 (lt35 (by decide)) (by decide)).2.trans h20
    have kk_148 : kK S_142 21 = O := (aw_145.2.1 21 (lt35 (by decide)) (by decide)).2.trans h21
    have ha_149r : br_139r < 35 + kB S_142 := by have := hs_144.1; have := br_139l; omega
    have ha_149 : kH S_142 br_139r = r_135 := (hs_144.2 br_139r br_139l).trans br_139h
    have wy_150 : W20 S_142 O := W20.aw hw aw_145 (by decide)
    have ty_151 := TY.aw hY aw_145 (by decide)
    obtain ⟨sg_152, sg_1521, sg_1522, sg_1523, sg_1524⟩ := hw_143.2
    have tk_153 := TK.sg hTK aw_145 (by decide) sg_1521 sg_1522 sg_1523
    exact c_vret hx hb hr hK hP hD hS hC hh hpp ⟨aw_145t, ⟨O, sg_152, tk_153, sg_1522, Nat.le_succ _, sg_1524⟩⟩ dX2_begin_129 hlocks
  · skip
    refine lv_aload_n hx hb dX2_begin_112 rfl (lv_at hl 1 rfl) ?_
    refine va_get (D := gD G) (ci := 2) (v := .ref (kH S 22)) (C := RX2) (T := TX2) (N := 6) hx hb htu cu_in2 hown hK hP 3 cw_3 rfl 4 (by decide) (htu _ C_125) (fun _ h9 => h9) rfl dX2_begin_113 ?_
    refine lv_iload_n hx hb dX2_begin_116 rfl (lv_at hl 0 rfl) ?_
    have hC0 := hC
    refine c_ci (c_runV (As := [.int f_134]) (rest := []) (q0 := (2 * 22 + 13)) (ci := 0) ⟨hx, hb, hml, hown, htu⟩ (c_getA l G S 22 (lt35 (by decide)) hC (kH S 22) rfl f_134 H) (cwV 1 htu hU_X2_80 rfl rfl rfl (by decide +kernel) ⟨Nat.le_of_ble_eq_true rfl, Nat.le_of_ble_eq_true rfl⟩) hP hK hD hC hpp (c_hd rfl (cw_row (lt35 (by decide)))) rfl rfl hl.1 rfl (lv_room (Nat.le_of_ble_eq_true rfl)) dX2_begin_117) hS hD hh hpp (fun r_154 S_155 H locs hw_156 hP hD hS hC hh hs_157 hpp => ?_)
    obtain ⟨hu9, hw_156⟩ := hw_156
    have hu9 := hu9.symm
    subst hu9
    refine lv_iconst (v := 1) hx hb dX2_begin_120 (by decide) ?_
    refine lv_icmp_ne (tgt := 130) hx hb dX2_begin_121 (by decide) (fun c_158 => ?_) (fun c_158 => ?_)
    · skip
      refine lv_aload_n hx hb dX2_begin_130 rfl (lv_at hl 1 rfl) ?_
      refine va_get (D := gD G) (ci := 2) (v := .ref (kH S 22)) (C := RX2) (T := TX2) (N := 6) hx hb htu cu_in2 hown hK hP 3 cw_3 rfl 4 (by decide) (htu _ C_125) (fun _ h9 => h9) rfl dX2_begin_131 ?_
      refine lv_iload_n hx hb dX2_begin_134 rfl (lv_at hl 0 rfl) ?_
      refine lv_iconst (v := 1) hx hb dX2_begin_135 (by decide) ?_
      have hC0 := hC
      refine c_cv (c_runV (As := [.int f_134, .int 1]) (rest := []) (q0 := (2 * 22 + 13)) (ci := 0) ⟨hx, hb, hml, hown, htu⟩ (c_setA l G S 22 (lt35 (by decide)) hC (kH S 22) rfl f_134 1 H) (cwV 2 htu hU_X2_86 rfl rfl rfl (by decide +kernel) ⟨Nat.le_of_ble_eq_true rfl, Nat.le_of_ble_eq_true rfl⟩) hP hK hD hC hpp (c_hd rfl (cw_row (lt35 (by decide)))) rfl rfl hl.1 rfl (lv_room (Nat.le_of_ble_eq_true rfl)) dX2_begin_136) hS hD hh hpp (fun S_160 H locs hw_161 hP hD hS hC hh hs_162 hpp => ?_)
      try dsimp only at hw_161
      have aw_163 : AW [22] [] S S_160 := (by rw [hw_161]; exact AW.u (by decide))
      have aw_163t : AW [19, 20, 21, 22] [200] S S_160 := AW.rf.tr (aw_163.mono (by decide) (by decide))
      have kk_164 : kK S_160 19 = O := (aw_163.2.1 19 (lt35 (by decide)) (by decide)).2.trans h19
      have kk_165 : kK S_160 20 = O := (aw_163.2.1 20 (lt35 (by decide)) (by decide)).2.trans h20
      have kk_166 : kK S_160 21 = O := (aw_163.2.1 21 (lt35 (by decide)) (by decide)).2.trans h21
      have ii_167 : S_160.1 200 = nI sn := (aw_163.1 200 (by decide)).trans hn
      have ha_168r : br_139r < 35 + kB S_160 := by have := hs_162.1; have := br_139l; omega
      have ha_168 : kH S_160 br_139r = r_135 := (hs_162.2 br_139r br_139l).trans br_139h
      have wy_169 : W20 S_160 O := W20.aw hw aw_163 (by decide)
      have ty_170 := TY.aw hY aw_163 (by decide)
      have tk_171 := TK.sg hTK aw_163 (by decide) ii_167 (Nat.le_refl _) hcap
      refine lv_aload_n hx hb dX2_begin_139 rfl (lv_at hl 1 rfl) ?_
      refine va_get (D := gD G) (ci := 2) (v := .ref (ga G 6)) (C := RX2) (T := TX2) (N := 6) hx hb htu cu_in2 hown hK hP 3 cw_3 rfl 5 (by decide) (htu _ C_127) (fun _ h9 => h9) (c_hv ((aw_163.2.2.1 (by decide)).trans hTS)) dX2_begin_140 ?_
      refine lv_iload_n hx hb dX2_begin_143 rfl (lv_at hl 3 rfl) ?_
      refine lv_if_ne (tgt := 152) hx hb dX2_begin_144 (by decide) (fun c_172 => ?_) (fun c_172 => ?_)
      · skip
        have nc_172 : ¬ wy = 0 := fun h9 => c_172 ((nI_eq (a := wy) (b := 0) (by omega) (by omega)).mpr h9)
        refine lv_bipush (v := 38) hx hb dX2_begin_152 (by decide) ?_
        have hC0 := hC
        refine c_cv (c_runV (As := [.int 38]) (rest := []) (q0 := 6) (ci := 1) ⟨hx, hb, hml, hown, htu⟩ (s_put_6 l G S_160 sn 38 hC ii_167 hcap H) (cwV 1 htu hU_X2_69 rfl rfl rfl (by decide +kernel) ⟨Nat.le_of_ble_eq_true rfl, Nat.le_of_ble_eq_true rfl⟩) hP hK hD hC hpp cw_6 rfl rfl hl.1 rfl (lv_room (Nat.le_of_ble_eq_true rfl)) dX2_begin_154) hS hD hh hpp (fun S_174 H locs hw_175 hP hD hS hC hh hs_176 hpp => ?_)
        try dsimp only at hw_175
        have aw_177 : AW [] [200] S_160 S_174 := hw_175.1
        have aw_177t : AW [19, 20, 21, 22] [200] S S_174 := aw_163t.tr (aw_177.mono (by decide) (by decide))
        have kk_178 : kK S_174 19 = O := (aw_177.2.1 19 (lt35 (by decide)) (by decide)).2.trans kk_164
        have kk_179 : kK S_174 20 = O := (aw_177.2.1 20 (lt35 (by decide)) (by decide)).2.trans kk_165
        have kk_180 : kK S_174 21 = O := (aw_177.2.1 21 (lt35 (by decide)) (by decide)).2.trans kk_166
        have ha_181r : br_139r < 35 + kB S_174 := by have := hs_176.1; have := ha_168r; omega
        have ha_181 : kH S_174 br_139r = r_135 := (hs_176.2 br_139r ha_168r).trans ha_168
        have wy_182 : W20 S_174 O := W20.aw wy_169 aw_177 (by decide)
        have ty_183 := TY.aw ty_170 aw_177 (by decide)
        obtain ⟨sg_184, sg_1841, sg_1842, sg_1843, sg_1844⟩ := hw_175.2
        have tk_185 := TK.sg tk_171 aw_177 (by decide) sg_1841 sg_1842 sg_1843
        refine lv_aload_n hx hb dX2_begin_157 rfl (lv_at hl 1 rfl) ?_
        refine lv_iload_n hx hb dX2_begin_158 rfl (lv_at hl 2 rfl) ?_
        have hC0 := hC
        refine c_cv (c_runV (As := [.int t]) (rest := []) (q0 := 3) (ci := 2) ⟨hx, hb, hml, hown, htu⟩ (l_putNumber_6 l G S_174 sg_184 t hC (((aw_177.2.2.1 (by decide)).trans ((aw_163.2.2.1 (by decide)).trans hTS))) sg_1841 sg_1843 H) (cwV 1 htu hU_X2_83 rfl rfl rfl (by decide +kernel) ⟨Nat.le_of_ble_eq_true rfl, Nat.le_of_ble_eq_true rfl⟩) hP hK hD hC hpp cw_3 rfl rfl hl.1 rfl (lv_room (Nat.le_of_ble_eq_true rfl)) dX2_begin_159) hS hD hh hpp (fun S_187 H locs hw_188 hP hD hS hC hh hs_189 hpp => ?_)
        try dsimp only at hw_188
        have aw_190 : AW [] [200] S_174 S_187 := hw_188.1
        have aw_190t : AW [19, 20, 21, 22] [200] S S_187 := aw_177t.tr (aw_190.mono (by decide) (by decide))
        have kk_191 : kK S_187 19 = O := (aw_190.2.1 19 (lt35 (by decide)) (by decide)).2.trans kk_178
        have kk_192 : kK S_187 20 = O := (aw_190.2.1 20 (lt35 (by decide)) (by decide)).2.trans kk_179
        have kk_193 : kK S_187 21 = O := (aw_190.2.1 21 (lt35 (by decide)) (by decide)).2.trans kk_180
        have ha_194r : br_139r < 35 + kB S_187 := by have := hs_189.1; have := ha_181r; omega
        have ha_194 : kH S_187 br_139r = r_135 := (hs_189.2 br_139r ha_181r).trans ha_181
        have wy_195 : W20 S_187 O := W20.aw wy_182 aw_190 (by decide)
        have ty_196 := TY.aw ty_183 aw_190 (by decide)
        obtain ⟨sg_197, sg_1971, sg_1972, sg_1973, sg_1974⟩ := hw_188.2
        have tk_198 := TK.sg tk_185 aw_190 (by decide) sg_1971 sg_1972 sg_1973
        have ho4 : O < 400 := tb_1 hos hsp hcap
        have hto : O + 1 ≤ sg_197 := tb_2 hos hsp (Nat.le_trans sg_1842 sg_1972) (fun h => Nat.lt_of_lt_of_le (sg_1844 h) sg_1972)
        refine lv_aload_n hx hb dX2_begin_162 rfl (lv_at hl 1 rfl) ?_
        refine va_get (D := gD G) (ci := 2) (v := .ref (kH S 19)) (C := RX2) (T := TX2) (N := 6) hx hb htu cu_in2 hown hK hP 3 cw_3 rfl 1 (by decide) (htu _ C_122) (fun _ h9 => h9) (c_hv (hh.2 19 (lt35 (by decide)))) dX2_begin_163 ?_
        refine lv_iload_n hx hb dX2_begin_166 rfl (lv_at hl 2 rfl) ?_
        have hC0 := hC
        refine c_cv (c_runV (As := [.int t]) (rest := []) (q0 := (2 * 19 + 13)) (ci := 0) ⟨hx, hb, hml, hown, htu⟩ (c_addA l G S_187 19 (lt35 (by decide)) hC (kH S 19) (hh.2 19 (lt35 (by decide))) t (tb_3 kk_191 ho4 lim_19) H) (cwV 1 htu hU_X2_89 rfl rfl rfl (by decide +kernel) ⟨Nat.le_of_ble_eq_true rfl, Nat.le_of_ble_eq_true rfl⟩) hP hK hD hC hpp (c_hd (hh.2 19 (lt35 (by decide))) (cw_row (lt35 (by decide)))) rfl rfl hl.1 rfl (lv_room (Nat.le_of_ble_eq_true rfl)) dX2_begin_167) hS hD hh hpp (fun S_200 H locs hw_201 hP hD hS hC hh hs_202 hpp => ?_)
        try dsimp only at hw_201
        have aw_203 : AW [19] [] S_187 S_200 := (by obtain ⟨_, _, _, h9, -, -⟩ := hw_201; rw [h9]; exact AW.u (by decide))
        have aw_203t : AW [19, 20, 21, 22] [200] S S_200 := aw_190t.tr (aw_203.mono (by decide) (by decide))
        have kk_204 : kK S_200 20 = O := (aw_203.2.1 20 (lt35 (by decide)) (by decide)).2.trans kk_192
        have kk_205 : kK S_200 21 = O := (aw_203.2.1 21 (lt35 (by decide)) (by decide)).2.trans kk_193
        have ii_206 : S_200.1 200 = nI sg_197 := (aw_203.1 200 (by decide)).trans sg_1971
        have ha_207r : br_139r < 35 + kB S_200 := by have := hs_202.1; have := ha_194r; omega
        have ha_207 : kH S_200 br_139r = r_135 := (hs_202.2 br_139r ha_194r).trans ha_194
        have wy_208 : W20 S_200 O := W20.aw wy_195 aw_203 (by decide)
        have ty_209 := TY.aw ty_196 aw_203 (by decide)
        obtain ⟨ad_210n, ad_210q, ad_210g, ad_210u, ad_2101, ad_2102⟩ := hw_201
        have kk_211 : kK S_200 19 = O + 1 := by rw [ad_210u]; exact uR_K.trans (congrArg (· + 1) kk_191)
        refine lv_aload_n hx hb dX2_begin_170 rfl (lv_at hl 1 rfl) ?_
        refine va_get (D := gD G) (ci := 2) (v := .ref (kH S 20)) (C := RX2) (T := TX2) (N := 6) hx hb htu cu_in2 hown hK hP 3 cw_3 rfl 2 (by decide) (htu _ C_123) (fun _ h9 => h9) (c_hv (hh.2 20 (lt35 (by decide)))) dX2_begin_171 ?_
        refine lv_iload_n hx hb dX2_begin_174 rfl (lv_at hl 3 rfl) ?_
        have hC0 := hC
        refine c_cv (c_runV (As := [.int (nI wy)]) (rest := []) (q0 := (2 * 20 + 13)) (ci := 0) ⟨hx, hb, hml, hown, htu⟩ (c_addA l G S_200 20 (lt35 (by decide)) hC (kH S 20) (hh.2 20 (lt35 (by decide))) (nI wy) (tb_3 kk_204 ho4 lim_20) H) (cwV 1 htu hU_X2_89 rfl rfl rfl (by decide +kernel) ⟨Nat.le_of_ble_eq_true rfl, Nat.le_of_ble_eq_true rfl⟩) hP hK hD hC hpp (c_hd (hh.2 20 (lt35 (by decide))) (cw_row (lt35 (by decide)))) rfl rfl hl.1 rfl (lv_room (Nat.le_of_ble_eq_true rfl)) dX2_begin_175) hS hD hh hpp (fun S_213 H locs hw_214 hP hD hS hC hh hs_215 hpp => ?_)
        try dsimp only at hw_214
        have aw_216 : AW [20] [] S_200 S_213 := (by obtain ⟨_, _, _, h9, -, -⟩ := hw_214; rw [h9]; exact AW.u (by decide))
        have aw_216t : AW [19, 20, 21, 22] [200] S S_213 := aw_203t.tr (aw_216.mono (by decide) (by decide))
        have kk_217 : kK S_213 21 = O := (aw_216.2.1 21 (lt35 (by decide)) (by decide)).2.trans kk_205
        have kk_218 : kK S_213 19 = O + 1 := (aw_216.2.1 19 (lt35 (by decide)) (by decide)).2.trans kk_211
        have ii_219 : S_213.1 200 = nI sg_197 := (aw_216.1 200 (by decide)).trans ii_206
        have ha_220r : br_139r < 35 + kB S_213 := by have := hs_215.1; have := ha_207r; omega
        have ha_220 : kH S_213 br_139r = r_135 := (hs_215.2 br_139r ha_207r).trans ha_207
        have ty_221 := TY.aw ty_209 aw_216 (by decide)
        obtain ⟨ad_222n, ad_222q, ad_222g, ad_222u, ad_2221, ad_2222⟩ := hw_214
        have kk_223 : kK S_213 20 = O + 1 := by rw [ad_222u]; exact uR_K.trans (congrArg (· + 1) kk_204)
        have wy_224 := W20.push wy_208 kk_204 ad_222u ad_2221 ad_2222 hwy
        refine lv_aload_n hx hb dX2_begin_178 rfl (lv_at hl 1 rfl) ?_
        refine va_get (D := gD G) (ci := 2) (v := .ref (kH S 21)) (C := RX2) (T := TX2) (N := 6) hx hb htu cu_in2 hown hK hP 3 cw_3 rfl 3 (by decide) (htu _ C_124) (fun _ h9 => h9) (c_hv (hh.2 21 (lt35 (by decide)))) dX2_begin_179 ?_
        refine lv_iconst (v := 0) hx hb dX2_begin_182 (by decide) ?_
        have hC0 := hC
        refine c_cv (c_runV (As := [.int 0]) (rest := []) (q0 := (2 * 21 + 13)) (ci := 0) ⟨hx, hb, hml, hown, htu⟩ (c_addA l G S_213 21 (lt35 (by decide)) hC (kH S 21) (hh.2 21 (lt35 (by decide))) 0 (tb_3 kk_217 ho4 lim_21) H) (cwV 1 htu hU_X2_89 rfl rfl rfl (by decide +kernel) ⟨Nat.le_of_ble_eq_true rfl, Nat.le_of_ble_eq_true rfl⟩) hP hK hD hC hpp (c_hd (hh.2 21 (lt35 (by decide))) (cw_row (lt35 (by decide)))) rfl rfl hl.1 rfl (lv_room (Nat.le_of_ble_eq_true rfl)) dX2_begin_183) hS hD hh hpp (fun S_226 H locs hw_227 hP hD hS hC hh hs_228 hpp => ?_)
        try dsimp only at hw_227
        have aw_229 : AW [21] [] S_213 S_226 := (by obtain ⟨_, _, _, h9, -, -⟩ := hw_227; rw [h9]; exact AW.u (by decide))
        have aw_229t : AW [19, 20, 21, 22] [200] S S_226 := aw_216t.tr (aw_229.mono (by decide) (by decide))
        have kk_230 : kK S_226 19 = O + 1 := (aw_229.2.1 19 (lt35 (by decide)) (by decide)).2.trans kk_218
        have kk_231 : kK S_226 20 = O + 1 := (aw_229.2.1 20 (lt35 (by decide)) (by decide)).2.trans kk_223
        have ii_232 : S_226.1 200 = nI sg_197 := (aw_229.1 200 (by decide)).trans ii_219
        have ha_233r : br_139r < 35 + kB S_226 := by have := hs_228.1; have := ha_220r; omega
        have ha_233 : kH S_226 br_139r = r_135 := (hs_228.2 br_139r ha_220r).trans ha_220
        have wy_234 : W20 S_226 (O + 1) := W20.aw wy_224 aw_229 (by decide)
        have ty_235 := TY.aw ty_221 aw_229 (by decide)
        obtain ⟨ad_236n, ad_236q, ad_236g, ad_236u, ad_2361, ad_2362⟩ := hw_227
        have kk_237 : kK S_226 21 = O + 1 := by rw [ad_236u]; exact uR_K.trans (congrArg (· + 1) kk_217)
        exact c_vret hx hb hr hK hP hD hS hC hh hpp ⟨aw_229t, ⟨O + 1, sg_197, ⟨⟨kk_230, kk_231, kk_237⟩, ii_232, sg_1973, hto, wy_234⟩, (Nat.le_trans sg_1842 sg_1972), Nat.le_refl _, (fun h => Nat.lt_of_lt_of_le (sg_1844 h) sg_1972)⟩⟩ dX2_begin_186 hlocks
      · skip
        have nc_172 : wy = 0 := (nI_eq (a := wy) (b := 0) (by omega) (by omega)).mp c_172
        refine lv_bipush (v := 124) hx hb dX2_begin_147 (by decide) ?_
        refine lv_goto (tgt := 154) hx hb dX2_begin_149 (by decide) ?_
        have hC0 := hC
        refine c_cv (c_runV (As := [.int 124]) (rest := []) (q0 := 6) (ci := 1) ⟨hx, hb, hml, hown, htu⟩ (s_put_6 l G S_160 sn 124 hC ii_167 hcap H) (cwV 1 htu hU_X2_69 rfl rfl rfl (by decide +kernel) ⟨Nat.le_of_ble_eq_true rfl, Nat.le_of_ble_eq_true rfl⟩) hP hK hD hC hpp cw_6 rfl rfl hl.1 rfl (lv_room (Nat.le_of_ble_eq_true rfl)) dX2_begin_154) hS hD hh hpp (fun S_239 H locs hw_240 hP hD hS hC hh hs_241 hpp => ?_)
        try dsimp only at hw_240
        have aw_242 : AW [] [200] S_160 S_239 := hw_240.1
        have aw_242t : AW [19, 20, 21, 22] [200] S S_239 := aw_163t.tr (aw_242.mono (by decide) (by decide))
        have kk_243 : kK S_239 19 = O := (aw_242.2.1 19 (lt35 (by decide)) (by decide)).2.trans kk_164
        have kk_244 : kK S_239 20 = O := (aw_242.2.1 20 (lt35 (by decide)) (by decide)).2.trans kk_165
        have kk_245 : kK S_239 21 = O := (aw_242.2.1 21 (lt35 (by decide)) (by decide)).2.trans kk_166
        have ha_246r : br_139r < 35 + kB S_239 := by have := hs_241.1; have := ha_168r; omega
        have ha_246 : kH S_239 br_139r = r_135 := (hs_241.2 br_139r ha_168r).trans ha_168
        have wy_247 : W20 S_239 O := W20.aw wy_169 aw_242 (by decide)
        have ty_248 := TY.aw ty_170 aw_242 (by decide)
        obtain ⟨sg_249, sg_2491, sg_2492, sg_2493, sg_2494⟩ := hw_240.2
        have tk_250 := TK.sg tk_171 aw_242 (by decide) sg_2491 sg_2492 sg_2493
        refine lv_aload_n hx hb dX2_begin_157 rfl (lv_at hl 1 rfl) ?_
        refine lv_iload_n hx hb dX2_begin_158 rfl (lv_at hl 2 rfl) ?_
        have hC0 := hC
        refine c_cv (c_runV (As := [.int t]) (rest := []) (q0 := 3) (ci := 2) ⟨hx, hb, hml, hown, htu⟩ (l_putNumber_6 l G S_239 sg_249 t hC (((aw_242.2.2.1 (by decide)).trans ((aw_163.2.2.1 (by decide)).trans hTS))) sg_2491 sg_2493 H) (cwV 1 htu hU_X2_83 rfl rfl rfl (by decide +kernel) ⟨Nat.le_of_ble_eq_true rfl, Nat.le_of_ble_eq_true rfl⟩) hP hK hD hC hpp cw_3 rfl rfl hl.1 rfl (lv_room (Nat.le_of_ble_eq_true rfl)) dX2_begin_159) hS hD hh hpp (fun S_252 H locs hw_253 hP hD hS hC hh hs_254 hpp => ?_)
        try dsimp only at hw_253
        have aw_255 : AW [] [200] S_239 S_252 := hw_253.1
        have aw_255t : AW [19, 20, 21, 22] [200] S S_252 := aw_242t.tr (aw_255.mono (by decide) (by decide))
        have kk_256 : kK S_252 19 = O := (aw_255.2.1 19 (lt35 (by decide)) (by decide)).2.trans kk_243
        have kk_257 : kK S_252 20 = O := (aw_255.2.1 20 (lt35 (by decide)) (by decide)).2.trans kk_244
        have kk_258 : kK S_252 21 = O := (aw_255.2.1 21 (lt35 (by decide)) (by decide)).2.trans kk_245
        have ha_259r : br_139r < 35 + kB S_252 := by have := hs_254.1; have := ha_246r; omega
        have ha_259 : kH S_252 br_139r = r_135 := (hs_254.2 br_139r ha_246r).trans ha_246
        have wy_260 : W20 S_252 O := W20.aw wy_247 aw_255 (by decide)
        have ty_261 := TY.aw ty_248 aw_255 (by decide)
        obtain ⟨sg_262, sg_2621, sg_2622, sg_2623, sg_2624⟩ := hw_253.2
        have tk_263 := TK.sg tk_250 aw_255 (by decide) sg_2621 sg_2622 sg_2623
        have ho4 : O < 400 := tb_1 hos hsp hcap
        have hto : O + 1 ≤ sg_262 := tb_2 hos hsp (Nat.le_trans sg_2492 sg_2622) (fun h => Nat.lt_of_lt_of_le (sg_2494 h) sg_2622)
        refine lv_aload_n hx hb dX2_begin_162 rfl (lv_at hl 1 rfl) ?_
        refine va_get (D := gD G) (ci := 2) (v := .ref (kH S 19)) (C := RX2) (T := TX2) (N := 6) hx hb htu cu_in2 hown hK hP 3 cw_3 rfl 1 (by decide) (htu _ C_122) (fun _ h9 => h9) (c_hv (hh.2 19 (lt35 (by decide)))) dX2_begin_163 ?_
        refine lv_iload_n hx hb dX2_begin_166 rfl (lv_at hl 2 rfl) ?_
        have hC0 := hC
        refine c_cv (c_runV (As := [.int t]) (rest := []) (q0 := (2 * 19 + 13)) (ci := 0) ⟨hx, hb, hml, hown, htu⟩ (c_addA l G S_252 19 (lt35 (by decide)) hC (kH S 19) (hh.2 19 (lt35 (by decide))) t (tb_3 kk_256 ho4 lim_19) H) (cwV 1 htu hU_X2_89 rfl rfl rfl (by decide +kernel) ⟨Nat.le_of_ble_eq_true rfl, Nat.le_of_ble_eq_true rfl⟩) hP hK hD hC hpp (c_hd (hh.2 19 (lt35 (by decide))) (cw_row (lt35 (by decide)))) rfl rfl hl.1 rfl (lv_room (Nat.le_of_ble_eq_true rfl)) dX2_begin_167) hS hD hh hpp (fun S_265 H locs hw_266 hP hD hS hC hh hs_267 hpp => ?_)
        try dsimp only at hw_266
        have aw_268 : AW [19] [] S_252 S_265 := (by obtain ⟨_, _, _, h9, -, -⟩ := hw_266; rw [h9]; exact AW.u (by decide))
        have aw_268t : AW [19, 20, 21, 22] [200] S S_265 := aw_255t.tr (aw_268.mono (by decide) (by decide))
        have kk_269 : kK S_265 20 = O := (aw_268.2.1 20 (lt35 (by decide)) (by decide)).2.trans kk_257
        have kk_270 : kK S_265 21 = O := (aw_268.2.1 21 (lt35 (by decide)) (by decide)).2.trans kk_258
        have ii_271 : S_265.1 200 = nI sg_262 := (aw_268.1 200 (by decide)).trans sg_2621
        have ha_272r : br_139r < 35 + kB S_265 := by have := hs_267.1; have := ha_259r; omega
        have ha_272 : kH S_265 br_139r = r_135 := (hs_267.2 br_139r ha_259r).trans ha_259
        have wy_273 : W20 S_265 O := W20.aw wy_260 aw_268 (by decide)
        have ty_274 := TY.aw ty_261 aw_268 (by decide)
        obtain ⟨ad_275n, ad_275q, ad_275g, ad_275u, ad_2751, ad_2752⟩ := hw_266
        have kk_276 : kK S_265 19 = O + 1 := by rw [ad_275u]; exact uR_K.trans (congrArg (· + 1) kk_256)
        refine lv_aload_n hx hb dX2_begin_170 rfl (lv_at hl 1 rfl) ?_
        refine va_get (D := gD G) (ci := 2) (v := .ref (kH S 20)) (C := RX2) (T := TX2) (N := 6) hx hb htu cu_in2 hown hK hP 3 cw_3 rfl 2 (by decide) (htu _ C_123) (fun _ h9 => h9) (c_hv (hh.2 20 (lt35 (by decide)))) dX2_begin_171 ?_
        refine lv_iload_n hx hb dX2_begin_174 rfl (lv_at hl 3 rfl) ?_
        have hC0 := hC
        refine c_cv (c_runV (As := [.int (nI wy)]) (rest := []) (q0 := (2 * 20 + 13)) (ci := 0) ⟨hx, hb, hml, hown, htu⟩ (c_addA l G S_265 20 (lt35 (by decide)) hC (kH S 20) (hh.2 20 (lt35 (by decide))) (nI wy) (tb_3 kk_269 ho4 lim_20) H) (cwV 1 htu hU_X2_89 rfl rfl rfl (by decide +kernel) ⟨Nat.le_of_ble_eq_true rfl, Nat.le_of_ble_eq_true rfl⟩) hP hK hD hC hpp (c_hd (hh.2 20 (lt35 (by decide))) (cw_row (lt35 (by decide)))) rfl rfl hl.1 rfl (lv_room (Nat.le_of_ble_eq_true rfl)) dX2_begin_175) hS hD hh hpp (fun S_278 H locs hw_279 hP hD hS hC hh hs_280 hpp => ?_)
        try dsimp only at hw_279
        have aw_281 : AW [20] [] S_265 S_278 := (by obtain ⟨_, _, _, h9, -, -⟩ := hw_279; rw [h9]; exact AW.u (by decide))
        have aw_281t : AW [19, 20, 21, 22] [200] S S_278 := aw_268t.tr (aw_281.mono (by decide) (by decide))
        have kk_282 : kK S_278 21 = O := (aw_281.2.1 21 (lt35 (by decide)) (by decide)).2.trans kk_270
        have kk_283 : kK S_278 19 = O + 1 := (aw_281.2.1 19 (lt35 (by decide)) (by decide)).2.trans kk_276
        have ii_284 : S_278.1 200 = nI sg_262 := (aw_281.1 200 (by decide)).trans ii_271
        have ha_285r : br_139r < 35 + kB S_278 := by have := hs_280.1; have := ha_272r; omega
        have ha_285 : kH S_278 br_139r = r_135 := (hs_280.2 br_139r ha_272r).trans ha_272
        have ty_286 := TY.aw ty_274 aw_281 (by decide)
        obtain ⟨ad_287n, ad_287q, ad_287g, ad_287u, ad_2871, ad_2872⟩ := hw_279
        have kk_288 : kK S_278 20 = O + 1 := by rw [ad_287u]; exact uR_K.trans (congrArg (· + 1) kk_269)
        have wy_289 := W20.push wy_273 kk_269 ad_287u ad_2871 ad_2872 hwy
        refine lv_aload_n hx hb dX2_begin_178 rfl (lv_at hl 1 rfl) ?_
        refine va_get (D := gD G) (ci := 2) (v := .ref (kH S 21)) (C := RX2) (T := TX2) (N := 6) hx hb htu cu_in2 hown hK hP 3 cw_3 rfl 3 (by decide) (htu _ C_124) (fun _ h9 => h9) (c_hv (hh.2 21 (lt35 (by decide)))) dX2_begin_179 ?_
        refine lv_iconst (v := 0) hx hb dX2_begin_182 (by decide) ?_
        have hC0 := hC
        refine c_cv (c_runV (As := [.int 0]) (rest := []) (q0 := (2 * 21 + 13)) (ci := 0) ⟨hx, hb, hml, hown, htu⟩ (c_addA l G S_278 21 (lt35 (by decide)) hC (kH S 21) (hh.2 21 (lt35 (by decide))) 0 (tb_3 kk_282 ho4 lim_21) H) (cwV 1 htu hU_X2_89 rfl rfl rfl (by decide +kernel) ⟨Nat.le_of_ble_eq_true rfl, Nat.le_of_ble_eq_true rfl⟩) hP hK hD hC hpp (c_hd (hh.2 21 (lt35 (by decide))) (cw_row (lt35 (by decide)))) rfl rfl hl.1 rfl (lv_room (Nat.le_of_ble_eq_true rfl)) dX2_begin_183) hS hD hh hpp (fun S_291 H locs hw_292 hP hD hS hC hh hs_293 hpp => ?_)
        try dsimp only at hw_292
        have aw_294 : AW [21] [] S_278 S_291 := (by obtain ⟨_, _, _, h9, -, -⟩ := hw_292; rw [h9]; exact AW.u (by decide))
        have aw_294t : AW [19, 20, 21, 22] [200] S S_291 := aw_281t.tr (aw_294.mono (by decide) (by decide))
        have kk_295 : kK S_291 19 = O + 1 := (aw_294.2.1 19 (lt35 (by decide)) (by decide)).2.trans kk_283
        have kk_296 : kK S_291 20 = O + 1 := (aw_294.2.1 20 (lt35 (by decide)) (by decide)).2.trans kk_288
        have ii_297 : S_291.1 200 = nI sg_262 := (aw_294.1 200 (by decide)).trans ii_284
        have ha_298r : br_139r < 35 + kB S_291 := by have := hs_293.1; have := ha_285r; omega
        have ha_298 : kH S_291 br_139r = r_135 := (hs_293.2 br_139r ha_285r).trans ha_285
        have wy_299 : W20 S_291 (O + 1) := W20.aw wy_289 aw_294 (by decide)
        have ty_300 := TY.aw ty_286 aw_294 (by decide)
        obtain ⟨ad_301n, ad_301q, ad_301g, ad_301u, ad_3011, ad_3012⟩ := hw_292
        have kk_302 : kK S_291 21 = O + 1 := by rw [ad_301u]; exact uR_K.trans (congrArg (· + 1) kk_282)
        exact c_vret hx hb hr hK hP hD hS hC hh hpp ⟨aw_294t, ⟨O + 1, sg_262, ⟨⟨kk_295, kk_296, kk_302⟩, ii_297, sg_2623, hto, wy_299⟩, (Nat.le_trans sg_2492 sg_2622), Nat.le_refl _, (fun h => Nat.lt_of_lt_of_le (sg_2494 h) sg_2622)⟩⟩ dX2_begin_186 hlocks
    · skip
      refine lv_aload_n hx hb dX2_begin_124 rfl (lv_at hl 1 rfl) ?_
      refine lv_iload_n hx hb dX2_begin_125 rfl (lv_at hl 2 rfl) ?_
      have hC0 := hC
      refine c_cv (c_runV (As := [.int t]) (rest := []) (q0 := 3) (ci := 2) ⟨hx, hb, hml, hown, htu⟩ (l_putNumber_6 l G S sn t hC hTS hn hcap H) (cwV 1 htu hU_X2_83 rfl rfl rfl (by decide +kernel) ⟨Nat.le_of_ble_eq_true rfl, Nat.le_of_ble_eq_true rfl⟩) hP hK hD hC hpp cw_3 rfl rfl hl.1 rfl (lv_room (Nat.le_of_ble_eq_true rfl)) dX2_begin_126) hS hD hh hpp (fun S_304 H locs hw_305 hP hD hS hC hh hs_306 hpp => ?_)
      try dsimp only at hw_305
      have aw_307 : AW [] [200] S S_304 := hw_305.1
      have aw_307t : AW [19, 20, 21, 22] [200] S S_304 := AW.rf.tr (aw_307.mono (by decide) (by decide))
      have kk_308 : kK S_304 19 = O := (aw_307.2.1 19 (lt35 (by decide)) (by decide)).2.trans h19
      have kk_309 : kK S_304 20 = O := (aw_307.2.1 20 (lt35 (by decide)) (by decide)).2.trans h20
      have kk_310 : kK S_304 21 = O := (aw_307.2.1 21 (lt35 (by decide)) (by decide)).2.trans h21
      have ha_311r : br_139r < 35 + kB S_304 := by have := hs_306.1; have := br_139l; omega
      have ha_311 : kH S_304 br_139r = r_135 := (hs_306.2 br_139r br_139l).trans br_139h
      have wy_312 : W20 S_304 O := W20.aw hw aw_307 (by decide)
      have ty_313 := TY.aw hY aw_307 (by decide)
      obtain ⟨sg_314, sg_3141, sg_3142, sg_3143, sg_3144⟩ := hw_305.2
      have tk_315 := TK.sg hTK aw_307 (by decide) sg_3141 sg_3142 sg_3143
      exact c_vret hx hb hr hK hP hD hS hC hh hpp ⟨aw_307t, ⟨O, sg_314, tk_315, sg_3142, Nat.le_succ _, sg_3144⟩⟩ dX2_begin_129 hlocks

set_option maxHeartbeats 4000000 in
set_option maxRecDepth 100000 in
/-- close -/
theorem l_close_6 (l : Launch) (G : cG) (S : cS) (T : Nat) (V : Nat) (VP : Nat) (X : Nat) (Y : Nat) (Z : Nat) (O : Nat) (sn : Nat) (hC : CL S) (hY : TY S T V VP X Y Z) (hTK : TK S 200 (O + 1) sn) (Hs : Heap) : Met l yX2_close (wC yX2_close cX2_close 3 none) (cRm S 2 42) (cPc G S Hs [.ref (ga G 3)]) (cQv G S Hs (fun u => AW [19, 20, 21, 22] [] S u ∧ (TK u 200 O sn))) (CC - PT S) (12 * (CC - PT S)) (cA G S Hs.size) := by
  refine Met.ofW (cc := cX2_close) (maxL := 3) (ret := none) (by decide) rfl ?_
  intro p e s m args below meth c s₁ B hml hv
  obtain ⟨rfl, hsz, hP, hK, hD0, -⟩ := hv
  have hx := B.exec
  have hb := B.bytes
  have hr := B.returns
  have htu : ∀ w ∈ CU, w.before _ s = true := fun w h => atoms_spec (ws := (wC yX2_close cX2_close 3 none)) B.pre w (List.mem_cons_of_mem _ h)
  have hown : s.vm.findClass RX2 = some m.cls := findClass_of_methodNamed B.named
  have hlocks := B.notSynchronized
  subst hsz
  have hD : cD (cA G S s.heap.size) G S := cD_self hD0
  have hl := lv_entry ([.ref (ga G 3)]) (n := 3) (Nat.le_of_ble_eq_true rfl)
  rw [lg_entry_eq]
  generalize (lg_sl ([.ref (ga G 3)]) ++ List.replicate (3 - (lg_sl ([.ref (ga G 3)])).length) Slot.unset).toArray = ls at hl ⊢
  have hl : lv_has ls 3 [(0, .ref (ga G 3))] := hl
  obtain ⟨H, hHe⟩ : ∃ H : Heap, H = s.heap := ⟨_, rfl⟩
  rw [← hHe] at hP
  have hS : va_S (cA G S s.heap.size) s.heap H [] := by rw [hHe]; exact va_S.rf
  have hh : HS S S := HS.rf
  have hpp : PT S ≤ PT S := Nat.le_refl _
  have hB9 := hC.1
  refine W.heq hHe ?_
  refine c_ent (S := S) ?_
  obtain ⟨⟨h19, h20, h21⟩, hn, hcap, hos, hw⟩ := id hTK
  refine lv_aload_n hx hb dX2_close_0 rfl (lv_at hl 0 rfl) ?_
  refine va_get (D := gD G) (ci := 2) (v := .ref (kH S 19)) (C := RX2) (T := TX2) (N := 6) hx hb htu cu_in2 hown hK hP 3 cw_3 rfl 1 (by decide) (htu _ C_122) (fun _ h9 => h9) rfl dX2_close_1 ?_
  refine va_get (D := gD G) (ci := 0) (v := .int (nI (O + 1))) (C := RX0) (T := TX0) (N := 2) hx hb htu cu_in0 hown hK hP (2 * 19 + 13) (c_hd rfl (cw_row (lt35 (by decide)))) rfl 1 (by decide) (htu _ C_450) (fun _ h9 => h9) (m_v (congrArg nI h19)) dX2_close_4 ?_
  refine lv_iconst (v := 1) hx hb dX2_close_7 (by decide) ?_
  refine lv_isub hx hb dX2_close_8 ?_
  refine m_top (y := nI O) (nI_pred _) ?_
  refine lv_istore_n (lv' := [(1, .int (nI O)), (0, .ref (ga G 3))]) hx hb dX2_close_9 rfl hl (by decide) rfl (fun ls hl => ?_)
  refine lv_aload_n hx hb dX2_close_10 rfl (lv_at hl 1 rfl) ?_
  refine va_get (D := gD G) (ci := 2) (v := .ref (kH S 19)) (C := RX2) (T := TX2) (N := 6) hx hb htu cu_in2 hown hK hP 3 cw_3 rfl 1 (by decide) (htu _ C_122) (fun _ h9 => h9) rfl dX2_close_11 ?_
  refine lv_iload_n hx hb dX2_close_14 rfl (lv_at hl 0 rfl) ?_
  have hC0 := hC
  refine c_ci (c_runV (As := [.int (nI O)]) (rest := []) (q0 := (2 * 19 + 13)) (ci := 0) ⟨hx, hb, hml, hown, htu⟩ (c_getA l G S 19 (lt35 (by decide)) hC (kH S 19) rfl (nI O) H) (cwV 1 htu hU_X2_80 rfl rfl rfl (by decide +kernel) ⟨Nat.le_of_ble_eq_true rfl, Nat.le_of_ble_eq_true rfl⟩) hP hK hD hC hpp (c_hd rfl (cw_row (lt35 (by decide)))) rfl rfl hl.1 rfl (lv_room (Nat.le_of_ble_eq_true rfl)) dX2_close_15) hS hD hh hpp (fun r_1 S_2 H locs hw_3 hP hD hS hC hh hs_4 hpp => ?_)
  obtain ⟨hu9, hw_3⟩ := hw_3
  have hu9 := hu9.symm
  subst hu9
  refine lv_istore_n (lv' := [(2, .int r_1), (1, .int (nI O)), (0, .ref (ga G 3))]) hx hb dX2_close_18 rfl hl (by decide) rfl (fun ls hl => ?_)
  refine lv_aload_n hx hb dX2_close_19 rfl (lv_at hl 2 rfl) ?_
  refine va_get (D := gD G) (ci := 2) (v := .ref (ga G 2)) (C := RX2) (T := TX2) (N := 6) hx hb htu cu_in2 hown hK hP 3 cw_3 rfl 0 (by decide) (htu _ C_128) (fun _ h9 => h9) rfl dX2_close_20 ?_
  refine lv_iload_n hx hb dX2_close_23 rfl (lv_at hl 0 rfl) ?_
  have hC0 := hC
  refine c_ci (c_runV (As := [.int r_1]) (rest := []) (q0 := 2) (ci := 4) ⟨hx, hb, hml, hown, htu⟩ (y_sortOf l G S r_1 hC  H) (cwV 1 htu hU_X2_65 rfl rfl rfl (by decide +kernel) ⟨Nat.le_of_ble_eq_true rfl, Nat.le_of_ble_eq_true rfl⟩) hP hK hD hC hpp cw_2 rfl rfl hl.1 rfl (lv_room (Nat.le_of_ble_eq_true rfl)) dX2_close_24) hS hD hh hpp (fun r_5 S_6 H locs hw_7 hP hD hS hC hh hs_8 hpp => ?_)
  obtain ⟨-, hu9, hw_7⟩ := hw_7
  have hu9 := hu9.symm
  subst hu9
  refine lv_iconst (v := 4) hx hb dX2_close_27 (by decide) ?_
  refine lv_icmp_ne (tgt := 59) hx hb dX2_close_28 (by decide) (fun c_9 => ?_) (fun c_9 => ?_)
  · skip
    refine lv_aload_n hx hb dX2_close_59 rfl (lv_at hl 2 rfl) ?_
    refine va_get (D := gD G) (ci := 2) (v := .ref (kH S 19)) (C := RX2) (T := TX2) (N := 6) hx hb htu cu_in2 hown hK hP 3 cw_3 rfl 1 (by decide) (htu _ C_122) (fun _ h9 => h9) rfl dX2_close_60 ?_
    refine lv_iload_n hx hb dX2_close_63 rfl (lv_at hl 1 rfl) ?_
    have hC0 := hC
    refine c_cv (c_runV (As := [.int (nI O)]) (rest := []) (q0 := (2 * 19 + 13)) (ci := 0) ⟨hx, hb, hml, hown, htu⟩ (c_cutA l G S 19 (lt35 (by decide)) hC (kH S 19) rfl (nI O) H) (cwV 1 htu hU_X2_114 rfl rfl rfl (by decide +kernel) ⟨Nat.le_of_ble_eq_true rfl, Nat.le_of_ble_eq_true rfl⟩) hP hK hD hC hpp (c_hd rfl (cw_row (lt35 (by decide)))) rfl rfl hl.1 rfl (lv_room (Nat.le_of_ble_eq_true rfl)) dX2_close_64) hS hD hh hpp (fun S_11 H locs hw_12 hP hD hS hC hh hs_13 hpp => ?_)
    try dsimp only at hw_12
    have aw_14 : AW [19] [] S S_11 := (by rw [hw_12]; exact AW.u (by decide))
    have aw_14t : AW [19, 20, 21, 22] [] S S_11 := AW.rf.tr (aw_14.mono (by decide) (by decide))
    have kk_15 : kK S_11 20 = O + 1 := (aw_14.2.1 20 (lt35 (by decide)) (by decide)).2.trans h20
    have kk_16 : kK S_11 21 = O + 1 := (aw_14.2.1 21 (lt35 (by decide)) (by decide)).2.trans h21
    have ii_17 : S_11.1 200 = nI sn := (aw_14.1 200 (by decide)).trans hn
    have wy_18 : W20 S_11 (O + 1) := W20.aw hw aw_14 (by decide)
    have ty_19 := TY.aw hY aw_14 (by decide)
    have kk_20 : kK S_11 19 = O := by rw [hw_12]; exact uR_K.trans (rcut_le2 (by rw [h19]; omega) (by rw [h19]; omega))
    refine lv_aload_n hx hb dX2_close_67 rfl (lv_at hl 2 rfl) ?_
    refine va_get (D := gD G) (ci := 2) (v := .ref (kH S 20)) (C := RX2) (T := TX2) (N := 6) hx hb htu cu_in2 hown hK hP 3 cw_3 rfl 2 (by decide) (htu _ C_123) (fun _ h9 => h9) (c_hv (hh.2 20 (lt35 (by decide)))) dX2_close_68 ?_
    refine lv_iload_n hx hb dX2_close_71 rfl (lv_at hl 1 rfl) ?_
    have hC0 := hC
    refine c_cv (c_runV (As := [.int (nI O)]) (rest := []) (q0 := (2 * 20 + 13)) (ci := 0) ⟨hx, hb, hml, hown, htu⟩ (c_cutA l G S_11 20 (lt35 (by decide)) hC (kH S 20) (hh.2 20 (lt35 (by decide))) (nI O) H) (cwV 1 htu hU_X2_114 rfl rfl rfl (by decide +kernel) ⟨Nat.le_of_ble_eq_true rfl, Nat.le_of_ble_eq_true rfl⟩) hP hK hD hC hpp (c_hd (hh.2 20 (lt35 (by decide))) (cw_row (lt35 (by decide)))) rfl rfl hl.1 rfl (lv_room (Nat.le_of_ble_eq_true rfl)) dX2_close_72) hS hD hh hpp (fun S_22 H locs hw_23 hP hD hS hC hh hs_24 hpp => ?_)
    try dsimp only at hw_23
    have aw_25 : AW [20] [] S_11 S_22 := (by rw [hw_23]; exact AW.u (by decide))
    have aw_25t : AW [19, 20, 21, 22] [] S S_22 := aw_14t.tr (aw_25.mono (by decide) (by decide))
    have kk_26 : kK S_22 21 = O + 1 := (aw_25.2.1 21 (lt35 (by decide)) (by decide)).2.trans kk_16
    have kk_27 : kK S_22 19 = O := (aw_25.2.1 19 (lt35 (by decide)) (by decide)).2.trans kk_20
    have ii_28 : S_22.1 200 = nI sn := (aw_25.1 200 (by decide)).trans ii_17
    have ty_29 := TY.aw ty_19 aw_25 (by decide)
    have kk_30 : kK S_22 20 = O := by rw [hw_23]; exact uR_K.trans (rcut_le2 (by rw [kk_15]; omega) (by rw [kk_15]; omega))
    have wy_31 : W20 S_22 O := fun j hj => by rw [hw_23, uR_F]; exact wy_18 j (by omega)
    refine lv_aload_n hx hb dX2_close_75 rfl (lv_at hl 2 rfl) ?_
    refine va_get (D := gD G) (ci := 2) (v := .ref (kH S 21)) (C := RX2) (T := TX2) (N := 6) hx hb htu cu_in2 hown hK hP 3 cw_3 rfl 3 (by decide) (htu _ C_124) (fun _ h9 => h9) (c_hv (hh.2 21 (lt35 (by decide)))) dX2_close_76 ?_
    refine lv_iload_n hx hb dX2_close_79 rfl (lv_at hl 1 rfl) ?_
    have hC0 := hC
    refine c_cv (c_runV (As := [.int (nI O)]) (rest := []) (q0 := (2 * 21 + 13)) (ci := 0) ⟨hx, hb, hml, hown, htu⟩ (c_cutA l G S_22 21 (lt35 (by decide)) hC (kH S 21) (hh.2 21 (lt35 (by decide))) (nI O) H) (cwV 1 htu hU_X2_114 rfl rfl rfl (by decide +kernel) ⟨Nat.le_of_ble_eq_true rfl, Nat.le_of_ble_eq_true rfl⟩) hP hK hD hC hpp (c_hd (hh.2 21 (lt35 (by decide))) (cw_row (lt35 (by decide)))) rfl rfl hl.1 rfl (lv_room (Nat.le_of_ble_eq_true rfl)) dX2_close_80) hS hD hh hpp (fun S_33 H locs hw_34 hP hD hS hC hh hs_35 hpp => ?_)
    try dsimp only at hw_34
    have aw_36 : AW [21] [] S_22 S_33 := (by rw [hw_34]; exact AW.u (by decide))
    have aw_36t : AW [19, 20, 21, 22] [] S S_33 := aw_25t.tr (aw_36.mono (by decide) (by decide))
    have kk_37 : kK S_33 19 = O := (aw_36.2.1 19 (lt35 (by decide)) (by decide)).2.trans kk_27
    have kk_38 : kK S_33 20 = O := (aw_36.2.1 20 (lt35 (by decide)) (by decide)).2.trans kk_30
    have ii_39 : S_33.1 200 = nI sn := (aw_36.1 200 (by decide)).trans ii_28
    have wy_40 : W20 S_33 O := W20.aw wy_31 aw_36 (by decide)
    have ty_41 := TY.aw ty_29 aw_36 (by decide)
    have kk_42 : kK S_33 21 = O := by rw [hw_34]; exact uR_K.trans (rcut_le2 (by rw [kk_26]; omega) (by rw [kk_26]; omega))
    exact c_vret hx hb hr hK hP hD hS hC hh hpp ⟨aw_36t, ⟨⟨kk_37, kk_38, kk_42⟩, ii_39, hcap, Nat.le_of_succ_le hos, wy_40⟩⟩ dX2_close_83 hlocks
  · skip
    refine lv_aload_n hx hb dX2_close_31 rfl (lv_at hl 2 rfl) ?_
    refine va_get (D := gD G) (ci := 2) (v := .ref (kH S 22)) (C := RX2) (T := TX2) (N := 6) hx hb htu cu_in2 hown hK hP 3 cw_3 rfl 4 (by decide) (htu _ C_125) (fun _ h9 => h9) rfl dX2_close_32 ?_
    refine lv_iconst (v := 2) hx hb dX2_close_35 (by decide) ?_
    refine lv_aload_n hx hb dX2_close_36 rfl (lv_at hl 2 rfl) ?_
    refine va_get (D := gD G) (ci := 2) (v := .ref (ga G 2)) (C := RX2) (T := TX2) (N := 6) hx hb htu cu_in2 hown hK hP 3 cw_3 rfl 0 (by decide) (htu _ C_128) (fun _ h9 => h9) rfl dX2_close_37 ?_
    refine lv_iload_n hx hb dX2_close_40 rfl (lv_at hl 0 rfl) ?_
    have hC0 := hC
    refine c_ci (c_runV (As := [.int r_1]) (rest := [.int 2, .ref (kH S 22)]) (q0 := 2) (ci := 4) ⟨hx, hb, hml, hown, htu⟩ (y_numberOf l G S r_1 hC  H) (cwV 1 htu hU_X2_73 rfl rfl rfl (by decide +kernel) ⟨Nat.le_of_ble_eq_true rfl, Nat.le_of_ble_eq_true rfl⟩) hP hK hD hC hpp cw_2 rfl rfl hl.1 rfl (lv_room (Nat.le_of_ble_eq_true rfl)) dX2_close_41) hS hD hh hpp (fun r_43 S_44 H locs hw_45 hP hD hS hC hh hs_46 hpp => ?_)
    obtain ⟨-, hu9⟩ := hw_45
    have hu9 := hu9.symm
    subst hu9
    refine lv_imul hx hb dX2_close_44 ?_
    refine lv_topi (fun f_47 ef_47 => ?_)
    refine lv_aload_n hx hb dX2_close_45 rfl (lv_at hl 2 rfl) ?_
    refine va_get (D := gD G) (ci := 2) (v := .ref (kH S 20)) (C := RX2) (T := TX2) (N := 6) hx hb htu cu_in2 hown hK hP 3 cw_3 rfl 2 (by decide) (htu _ C_123) (fun _ h9 => h9) rfl dX2_close_46 ?_
    refine lv_iload_n hx hb dX2_close_49 rfl (lv_at hl 1 rfl) ?_
    have hC0 := hC
    refine c_ci (c_runV (As := [.int (nI O)]) (rest := [.int f_47, .ref (kH S 22)]) (q0 := (2 * 20 + 13)) (ci := 0) ⟨hx, hb, hml, hown, htu⟩ (c_getA l G S 20 (lt35 (by decide)) hC (kH S 20) rfl (nI O) H) (cwV 1 htu hU_X2_80 rfl rfl rfl (by decide +kernel) ⟨Nat.le_of_ble_eq_true rfl, Nat.le_of_ble_eq_true rfl⟩) hP hK hD hC hpp (c_hd rfl (cw_row (lt35 (by decide)))) rfl rfl hl.1 rfl (lv_room (Nat.le_of_ble_eq_true rfl)) dX2_close_50) hS hD hh hpp (fun r_48 S_49 H locs hw_50 hP hD hS hC hh hs_51 hpp => ?_)
    obtain ⟨hu9, hw_50⟩ := hw_50
    have hu9 := hu9.symm
    subst hu9
    refine lv_iadd hx hb dX2_close_53 ?_
    refine lv_topi (fun f_52 ef_52 => ?_)
    refine lv_bipush (v := (-9)) hx hb dX2_close_54 (by decide) ?_
    have hC0 := hC
    refine c_cv (c_runV (As := [.int f_52, .int ((-9))]) (rest := []) (q0 := (2 * 22 + 13)) (ci := 0) ⟨hx, hb, hml, hown, htu⟩ (c_setA l G S 22 (lt35 (by decide)) hC (kH S 22) rfl f_52 ((-9)) H) (cwV 2 htu hU_X2_86 rfl rfl rfl (by decide +kernel) ⟨Nat.le_of_ble_eq_true rfl, Nat.le_of_ble_eq_true rfl⟩) hP hK hD hC hpp (c_hd rfl (cw_row (lt35 (by decide)))) rfl rfl hl.1 rfl (lv_room (Nat.le_of_ble_eq_true rfl)) dX2_close_56) hS hD hh hpp (fun S_54 H locs hw_55 hP hD hS hC hh hs_56 hpp => ?_)
    try dsimp only at hw_55
    have aw_57 : AW [22] [] S S_54 := (by rw [hw_55]; exact AW.u (by decide))
    have aw_57t : AW [19, 20, 21, 22] [] S S_54 := AW.rf.tr (aw_57.mono (by decide) (by decide))
    have kk_58 : kK S_54 19 = O + 1 := (aw_57.2.1 19 (lt35 (by decide)) (by decide)).2.trans h19
    have kk_59 : kK S_54 20 = O + 1 := (aw_57.2.1 20 (lt35 (by decide)) (by decide)).2.trans h20
    have kk_60 : kK S_54 21 = O + 1 := (aw_57.2.1 21 (lt35 (by decide)) (by decide)).2.trans h21
    have ii_61 : S_54.1 200 = nI sn := (aw_57.1 200 (by decide)).trans hn
    have wy_62 : W20 S_54 (O + 1) := W20.aw hw aw_57 (by decide)
    have ty_63 := TY.aw hY aw_57 (by decide)
    refine lv_aload_n hx hb dX2_close_59 rfl (lv_at hl 2 rfl) ?_
    refine va_get (D := gD G) (ci := 2) (v := .ref (kH S 19)) (C := RX2) (T := TX2) (N := 6) hx hb htu cu_in2 hown hK hP 3 cw_3 rfl 1 (by decide) (htu _ C_122) (fun _ h9 => h9) (c_hv (hh.2 19 (lt35 (by decide)))) dX2_close_60 ?_
    refine lv_iload_n hx hb dX2_close_63 rfl (lv_at hl 1 rfl) ?_
    have hC0 := hC
    refine c_cv (c_runV (As := [.int (nI O)]) (rest := []) (q0 := (2 * 19 + 13)) (ci := 0) ⟨hx, hb, hml, hown, htu⟩ (c_cutA l G S_54 19 (lt35 (by decide)) hC (kH S 19) (hh.2 19 (lt35 (by decide))) (nI O) H) (cwV 1 htu hU_X2_114 rfl rfl rfl (by decide +kernel) ⟨Nat.le_of_ble_eq_true rfl, Nat.le_of_ble_eq_true rfl⟩) hP hK hD hC hpp (c_hd (hh.2 19 (lt35 (by decide))) (cw_row (lt35 (by decide)))) rfl rfl hl.1 rfl (lv_room (Nat.le_of_ble_eq_true rfl)) dX2_close_64) hS hD hh hpp (fun S_65 H locs hw_66 hP hD hS hC hh hs_67 hpp => ?_)
    try dsimp only at hw_66
    have aw_68 : AW [19] [] S_54 S_65 := (by rw [hw_66]; exact AW.u (by decide))
    have aw_68t : AW [19, 20, 21, 22] [] S S_65 := aw_57t.tr (aw_68.mono (by decide) (by decide))
    have kk_69 : kK S_65 20 = O + 1 := (aw_68.2.1 20 (lt35 (by decide)) (by decide)).2.trans kk_59
    have kk_70 : kK S_65 21 = O + 1 := (aw_68.2.1 21 (lt35 (by decide)) (by decide)).2.trans kk_60
    have ii_71 : S_65.1 200 = nI sn := (aw_68.1 200 (by decide)).trans ii_61
    have wy_72 : W20 S_65 (O + 1) := W20.aw wy_62 aw_68 (by decide)
    have ty_73 := TY.aw ty_63 aw_68 (by decide)
    have kk_74 : kK S_65 19 = O := by rw [hw_66]; exact uR_K.trans (rcut_le2 (by rw [kk_58]; omega) (by rw [kk_58]; omega))
    refine lv_aload_n hx hb dX2_close_67 rfl (lv_at hl 2 rfl) ?_
    refine va_get (D := gD G) (ci := 2) (v := .ref (kH S 20)) (C := RX2) (T := TX2) (N := 6) hx hb htu cu_in2 hown hK hP 3 cw_3 rfl 2 (by decide) (htu _ C_123) (fun _ h9 => h9) (c_hv (hh.2 20 (lt35 (by decide)))) dX2_close_68 ?_
    refine lv_iload_n hx hb dX2_close_71 rfl (lv_at hl 1 rfl) ?_
    have hC0 := hC
    refine c_cv (c_runV (As := [.int (nI O)]) (rest := []) (q0 := (2 * 20 + 13)) (ci := 0) ⟨hx, hb, hml, hown, htu⟩ (c_cutA l G S_65 20 (lt35 (by decide)) hC (kH S 20) (hh.2 20 (lt35 (by decide))) (nI O) H) (cwV 1 htu hU_X2_114 rfl rfl rfl (by decide +kernel) ⟨Nat.le_of_ble_eq_true rfl, Nat.le_of_ble_eq_true rfl⟩) hP hK hD hC hpp (c_hd (hh.2 20 (lt35 (by decide))) (cw_row (lt35 (by decide)))) rfl rfl hl.1 rfl (lv_room (Nat.le_of_ble_eq_true rfl)) dX2_close_72) hS hD hh hpp (fun S_76 H locs hw_77 hP hD hS hC hh hs_78 hpp => ?_)
    try dsimp only at hw_77
    have aw_79 : AW [20] [] S_65 S_76 := (by rw [hw_77]; exact AW.u (by decide))
    have aw_79t : AW [19, 20, 21, 22] [] S S_76 := aw_68t.tr (aw_79.mono (by decide) (by decide))
    have kk_80 : kK S_76 21 = O + 1 := (aw_79.2.1 21 (lt35 (by decide)) (by decide)).2.trans kk_70
    have kk_81 : kK S_76 19 = O := (aw_79.2.1 19 (lt35 (by decide)) (by decide)).2.trans kk_74
    have ii_82 : S_76.1 200 = nI sn := (aw_79.1 200 (by decide)).trans ii_71
    have ty_83 := TY.aw ty_73 aw_79 (by decide)
    have kk_84 : kK S_76 20 = O := by rw [hw_77]; exact uR_K.trans (rcut_le2 (by rw [kk_69]; omega) (by rw [kk_69]; omega))
    have wy_85 : W20 S_76 O := fun j hj => by rw [hw_77, uR_F]; exact wy_72 j (by omega)
    refine lv_aload_n hx hb dX2_close_75 rfl (lv_at hl 2 rfl) ?_
    refine va_get (D := gD G) (ci := 2) (v := .ref (kH S 21)) (C := RX2) (T := TX2) (N := 6) hx hb htu cu_in2 hown hK hP 3 cw_3 rfl 3 (by decide) (htu _ C_124) (fun _ h9 => h9) (c_hv (hh.2 21 (lt35 (by decide)))) dX2_close_76 ?_
    refine lv_iload_n hx hb dX2_close_79 rfl (lv_at hl 1 rfl) ?_
    have hC0 := hC
    refine c_cv (c_runV (As := [.int (nI O)]) (rest := []) (q0 := (2 * 21 + 13)) (ci := 0) ⟨hx, hb, hml, hown, htu⟩ (c_cutA l G S_76 21 (lt35 (by decide)) hC (kH S 21) (hh.2 21 (lt35 (by decide))) (nI O) H) (cwV 1 htu hU_X2_114 rfl rfl rfl (by decide +kernel) ⟨Nat.le_of_ble_eq_true rfl, Nat.le_of_ble_eq_true rfl⟩) hP hK hD hC hpp (c_hd (hh.2 21 (lt35 (by decide))) (cw_row (lt35 (by decide)))) rfl rfl hl.1 rfl (lv_room (Nat.le_of_ble_eq_true rfl)) dX2_close_80) hS hD hh hpp (fun S_87 H locs hw_88 hP hD hS hC hh hs_89 hpp => ?_)
    try dsimp only at hw_88
    have aw_90 : AW [21] [] S_76 S_87 := (by rw [hw_88]; exact AW.u (by decide))
    have aw_90t : AW [19, 20, 21, 22] [] S S_87 := aw_79t.tr (aw_90.mono (by decide) (by decide))
    have kk_91 : kK S_87 19 = O := (aw_90.2.1 19 (lt35 (by decide)) (by decide)).2.trans kk_81
    have kk_92 : kK S_87 20 = O := (aw_90.2.1 20 (lt35 (by decide)) (by decide)).2.trans kk_84
    have ii_93 : S_87.1 200 = nI sn := (aw_90.1 200 (by decide)).trans ii_82
    have wy_94 : W20 S_87 O := W20.aw wy_85 aw_90 (by decide)
    have ty_95 := TY.aw ty_83 aw_90 (by decide)
    have kk_96 : kK S_87 21 = O := by rw [hw_88]; exact uR_K.trans (rcut_le2 (by rw [kk_80]; omega) (by rw [kk_80]; omega))
    exact c_vret hx hb hr hK hP hD hS hC hh hpp ⟨aw_90t, ⟨⟨kk_91, kk_92, kk_96⟩, ii_93, hcap, Nat.le_of_succ_le hos, wy_94⟩⟩ dX2_close_83 hlocks

