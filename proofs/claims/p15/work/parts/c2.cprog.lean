theorem dX5_forget_0 : decode cX5_forget 0 = .ok (.aload_n 0, 1) := by decide +kernel
theorem dX5_forget_1 : decode cX5_forget 1 = .ok (.getfield 12, 3) := by decide +kernel
theorem dX5_forget_4 : decode cX5_forget 4 = .ok (.invokevirtual 68, 3) := by decide +kernel
theorem dX5_forget_7 : decode cX5_forget 7 = .ok (.aload_n 0, 1) := by decide +kernel
theorem dX5_forget_8 : decode cX5_forget 8 = .ok (.iconst 0, 1) := by decide +kernel
theorem dX5_forget_9 : decode cX5_forget 9 = .ok (.putfield 71, 3) := by decide +kernel
theorem dX5_forget_12 : decode cX5_forget 12 = .ok (.aload_n 0, 1) := by decide +kernel
theorem dX5_forget_13 : decode cX5_forget 13 = .ok (.bipush (-9), 2) := by decide +kernel
theorem dX5_forget_15 : decode cX5_forget 15 = .ok (.putfield 58, 3) := by decide +kernel
theorem dX5_forget_18 : decode cX5_forget 18 = .ok (.aload_n 0, 1) := by decide +kernel
theorem dX5_forget_19 : decode cX5_forget 19 = .ok (.bipush (-4), 2) := by decide +kernel
theorem dX5_forget_21 : decode cX5_forget 21 = .ok (.putfield 61, 3) := by decide +kernel
theorem dX5_forget_24 : decode cX5_forget 24 = .ok (.return_, 1) := by decide +kernel
theorem dX5_typeProgram_0 : decode cX5_typeProgram 0 = .ok (.aload_n 0, 1) := by decide +kernel
theorem dX5_typeProgram_1 : decode cX5_typeProgram 1 = .ok (.invokevirtual 74, 3) := by decide +kernel
theorem dX5_typeProgram_4 : decode cX5_typeProgram 4 = .ok (.aload_n 0, 1) := by decide +kernel
theorem dX5_typeProgram_5 : decode cX5_typeProgram 5 = .ok (.iload_n 1, 1) := by decide +kernel
theorem dX5_typeProgram_6 : decode cX5_typeProgram 6 = .ok (.putfield 54, 3) := by decide +kernel
theorem dX5_typeProgram_9 : decode cX5_typeProgram 9 = .ok (.aload_n 0, 1) := by decide +kernel
theorem dX5_typeProgram_10 : decode cX5_typeProgram 10 = .ok (.iload_n 1, 1) := by decide +kernel
theorem dX5_typeProgram_11 : decode cX5_typeProgram 11 = .ok (.iconst 0, 1) := by decide +kernel
theorem dX5_typeProgram_12 : decode cX5_typeProgram 12 = .ok (.iconst 1, 1) := by decide +kernel
theorem dX5_typeProgram_13 : decode cX5_typeProgram 13 = .ok (.invokevirtual 77, 3) := by decide +kernel
theorem dX5_typeProgram_16 : decode cX5_typeProgram 16 = .ok (.istore_n 2, 1) := by decide +kernel
theorem dX5_typeProgram_17 : decode cX5_typeProgram 17 = .ok (.aload_n 0, 1) := by decide +kernel
theorem dX5_typeProgram_18 : decode cX5_typeProgram 18 = .ok (.iload_n 2, 1) := by decide +kernel
theorem dX5_typeProgram_19 : decode cX5_typeProgram 19 = .ok (.ifCond .ge 7, 3) := by decide +kernel
theorem dX5_typeProgram_26 : decode cX5_typeProgram 26 = .ok (.iconst 0, 1) := by decide +kernel
theorem dX5_typeProgram_27 : decode cX5_typeProgram 27 = .ok (.putfield 61, 3) := by decide +kernel
theorem dX5_typeProgram_30 : decode cX5_typeProgram 30 = .ok (.aload_n 0, 1) := by decide +kernel
theorem dX5_typeProgram_31 : decode cX5_typeProgram 31 = .ok (.getfield 61, 3) := by decide +kernel
theorem dX5_typeProgram_34 : decode cX5_typeProgram 34 = .ok (.ifCond .eq 8, 3) := by decide +kernel
theorem dX5_typeProgram_42 : decode cX5_typeProgram 42 = .ok (.aload_n 0, 1) := by decide +kernel
theorem dX5_typeProgram_43 : decode cX5_typeProgram 43 = .ok (.getfield 23, 3) := by decide +kernel
theorem dX5_typeProgram_46 : decode cX5_typeProgram 46 = .ok (.iload_n 2, 1) := by decide +kernel
theorem dX5_typeProgram_47 : decode cX5_typeProgram 47 = .ok (.iconst 0, 1) := by decide +kernel
theorem dX5_typeProgram_48 : decode cX5_typeProgram 48 = .ok (.aload_n 0, 1) := by decide +kernel
theorem dX5_typeProgram_49 : decode cX5_typeProgram 49 = .ok (.getfield 32, 3) := by decide +kernel
theorem dX5_typeProgram_52 : decode cX5_typeProgram 52 = .ok (.invokevirtual 81, 3) := by decide +kernel
theorem dX5_typeProgram_55 : decode cX5_typeProgram 55 = .ok (.aload_n 0, 1) := by decide +kernel
theorem dX5_typeProgram_56 : decode cX5_typeProgram 56 = .ok (.getfield 12, 3) := by decide +kernel
theorem dX5_typeProgram_59 : decode cX5_typeProgram 59 = .ok (.invokevirtual 85, 3) := by decide +kernel
theorem dX5_typeProgram_62 : decode cX5_typeProgram 62 = .ok (.ireturn, 1) := by decide +kernel
theorem dX5_typeProgram_22 : decode cX5_typeProgram 22 = .ok (.iload_n 2, 1) := by decide +kernel
theorem dX5_typeProgram_23 : decode cX5_typeProgram 23 = .ok (.goto 4, 3) := by decide +kernel
theorem dX5_typeProgram_37 : decode cX5_typeProgram 37 = .ok (.aload_n 0, 1) := by decide +kernel
theorem dX5_typeProgram_38 : decode cX5_typeProgram 38 = .ok (.getfield 61, 3) := by decide +kernel
theorem dX5_typeProgram_41 : decode cX5_typeProgram 41 = .ok (.ireturn, 1) := by decide +kernel
set_option maxHeartbeats 4000000 in
set_option maxRecDepth 100000 in
/-- forget -/
theorem g_forget (l : Launch) (G : cG) (S : cS) (hC : CL S) (Hs : Heap) : Met l yX5_forget (wC yX5_forget cX5_forget 1 none) (cRm S 5 148) (cPc G S Hs [.ref (ga G 4)]) (cQv G S Hs (fun u => AW [6, 7, 8, 9, 16, 14, 10, 11, 12, 13, 17, 18] [12, 13, 14] S u ∧ (TY u 2 0 0 0 0 0 ∧ u.1 12 = 0 ∧ u.1 13 = (-9) ∧ u.1 14 = (-4)))) (CC - PT S) (12 * (CC - PT S)) (cA G S Hs.size) := by
  refine Met.ofW (cc := cX5_forget) (maxL := 1) (ret := none) (by decide) rfl ?_
  intro p e s m args below meth c s₁ B hml hv
  obtain ⟨rfl, hsz, hP, hK, hD0, -⟩ := hv
  have hx := B.exec
  have hb := B.bytes
  have hr := B.returns
  have htu : ∀ w ∈ CU, w.before _ s = true := fun w h => atoms_spec (ws := (wC yX5_forget cX5_forget 1 none)) B.pre w (List.mem_cons_of_mem _ h)
  have hown : s.vm.findClass RX5 = some m.cls := findClass_of_methodNamed B.named
  have hlocks := B.notSynchronized
  subst hsz
  have hD : cD (cA G S s.heap.size) G S := cD_self hD0
  have hl := lv_entry ([.ref (ga G 4)]) (n := 1) (Nat.le_of_ble_eq_true rfl)
  rw [lg_entry_eq]
  generalize (lg_sl ([.ref (ga G 4)]) ++ List.replicate (1 - (lg_sl ([.ref (ga G 4)])).length) Slot.unset).toArray = ls at hl ⊢
  have hl : lv_has ls 1 [(0, .ref (ga G 4))] := hl
  obtain ⟨H, hHe⟩ : ∃ H : Heap, H = s.heap := ⟨_, rfl⟩
  rw [← hHe] at hP
  have hS : va_S (cA G S s.heap.size) s.heap H [] := by rw [hHe]; exact va_S.rf
  have hh : HS S S := HS.rf
  have hpp : PT S ≤ PT S := Nat.le_refl _
  have hB9 := hC.1
  refine W.heq hHe ?_
  refine c_ent (S := S) ?_
  refine lv_aload_n hx hb dX5_forget_0 rfl (lv_at hl 0 rfl) ?_
  refine va_get (D := gD G) (ci := 5) (v := .ref (ga G 2)) (C := RX5) (T := TX5) (N := 15) hx hb htu cu_in5 hown hK hP 4 cw_4 rfl 1 (by decide) (htu _ C_45) (fun _ h9 => h9) rfl dX5_forget_1 ?_
  have hC0 := hC
  refine c_cv (c_runV (As := []) (rest := []) (q0 := 2) (ci := 4) ⟨hx, hb, hml, hown, htu⟩ (y_startAnew l G S  hC  H) (cwV 0 htu hU_X5_68 rfl rfl rfl (by decide +kernel) ⟨Nat.le_of_ble_eq_true rfl, Nat.le_of_ble_eq_true rfl⟩) hP hK hD hC hpp cw_2 rfl rfl hl.1 rfl (lv_room (Nat.le_of_ble_eq_true rfl)) dX5_forget_4) hS hD hh hpp (fun S_2 H locs hw_3 hP hD hS hC hh hs_4 hpp => ?_)
  try dsimp only at hw_3
  have aw_5 : AW [6, 7, 8, 9, 16, 14, 10, 11, 12, 13, 17, 18] [] S S_2 := hw_3.1
  have aw_5t : AW [6, 7, 8, 9, 16, 14, 10, 11, 12, 13, 17, 18] [12, 13, 14] S S_2 := AW.rf.tr (aw_5.mono (by decide) (by decide))
  have ty_6 := hw_3.2
  refine lv_aload_n hx hb dX5_forget_7 rfl (lv_at hl 0 rfl) ?_
  refine lv_iconst (v := 0) hx hb dX5_forget_8 (by decide) ?_
  refine c_put4_12 (x := 0) hx hb htu hown hK hP hD hS (htu _ C_262) dX5_forget_9 (fun H locs hP hD hS => ?_)
  have S_7h : HS S (cO S_2 12 0) := hh
  have S_7c : CL (cO S_2 12 0) := hC
  have S_7p : PT S ≤ PT (cO S_2 12 0) := hpp
  refine c_eq (S1 := S_2) (S2 := cO S_2 12 0) rfl ?_
  have S_7w : AW [6, 7, 8, 9, 16, 14, 10, 11, 12, 13, 17, 18] [12, 13, 14] S (cO S_2 12 0) := (AW.o aw_5t (by decide))
  have hh := S_7h
  have hC := S_7c
  have hpp := S_7p
  refine lv_aload_n hx hb dX5_forget_12 rfl (lv_at hl 0 rfl) ?_
  refine lv_bipush (v := (-9)) hx hb dX5_forget_13 (by decide) ?_
  refine c_put4_13 (x := ((-9))) hx hb htu hown hK hP hD hS (htu _ C_58) dX5_forget_15 (fun H locs hP hD hS => ?_)
  have S_8h : HS S (cO (cO S_2 12 0) 13 ((-9))) := hh
  have S_8c : CL (cO (cO S_2 12 0) 13 ((-9))) := hC
  have S_8p : PT S ≤ PT (cO (cO S_2 12 0) 13 ((-9))) := hpp
  refine c_eq (S1 := (cO S_2 12 0)) (S2 := cO (cO S_2 12 0) 13 ((-9))) rfl ?_
  have S_8w : AW [6, 7, 8, 9, 16, 14, 10, 11, 12, 13, 17, 18] [12, 13, 14] S (cO (cO S_2 12 0) 13 ((-9))) := (AW.o S_7w (by decide))
  have hh := S_8h
  have hC := S_8c
  have hpp := S_8p
  refine lv_aload_n hx hb dX5_forget_18 rfl (lv_at hl 0 rfl) ?_
  refine lv_bipush (v := (-4)) hx hb dX5_forget_19 (by decide) ?_
  refine c_put4_14 (x := ((-4))) hx hb htu hown hK hP hD hS (htu _ C_59) dX5_forget_21 (fun H locs hP hD hS => ?_)
  have S_9h : HS S (cO (cO (cO S_2 12 0) 13 ((-9))) 14 ((-4))) := hh
  have S_9c : CL (cO (cO (cO S_2 12 0) 13 ((-9))) 14 ((-4))) := hC
  have S_9p : PT S ≤ PT (cO (cO (cO S_2 12 0) 13 ((-9))) 14 ((-4))) := hpp
  refine c_eq (S1 := (cO (cO S_2 12 0) 13 ((-9)))) (S2 := cO (cO (cO S_2 12 0) 13 ((-9))) 14 ((-4))) rfl ?_
  have S_9w : AW [6, 7, 8, 9, 16, 14, 10, 11, 12, 13, 17, 18] [12, 13, 14] S (cO (cO (cO S_2 12 0) 13 ((-9))) 14 ((-4))) := (AW.o S_8w (by decide))
  have hh := S_9h
  have hC := S_9c
  have hpp := S_9p
  exact c_vret hx hb hr hK hP hD hS hC hh hpp ⟨S_9w, ⟨ty_6, ((cO_n (show 12 ≠ 14 by decide)).trans ((cO_n (show 12 ≠ 13 by decide)).trans cO_s)), ((cO_n (show 13 ≠ 14 by decide)).trans cO_s), cO_s⟩⟩ dX5_forget_24 hlocks

set_option maxHeartbeats 4000000 in
set_option maxRecDepth 100000 in
/-- typeProgram -/
theorem g_typeProgram (l : Launch) (G : cG) (S : cS) (N : Nat) (sm0 : Nat) (n : Int32) (hC : CL S) (hT : TJ S N) (h15 : kK S 15 = 0) (h19 : kK S 19 = 0) (h20 : kK S 20 = 0) (h21 : kK S 21 = 0) (h201 : S.1 201 = nI sm0) (hsm : sm0 ≤ 400) (Hs : Heap) : Met l yX5_typeProgram (wC yX5_typeProgram cX5_typeProgram 3 (some .int)) (cRm S 300 11000) (cPc G S Hs [.ref (ga G 4), .int n]) (cQi G S Hs (fun v u => AW [6, 7, 8, 9, 16, 14, 10, 11, 12, 13, 17, 18, 23, 24, 25, 26, 35, 19, 20, 21, 22] [8, 9, 10, 11, 12, 13, 14, 201, 300] S u ∧ ((∃ T V X Y Z, TY u T V V X Y Z) ∧ (kK u 15 = 0 ∧ kK u 19 = 0 ∧ kK u 20 = 0 ∧ kK u 21 = 0) ∧ ∃ sm, u.1 201 = nI sm ∧ sm ≤ 400))) (CC - PT S) (12 * (CC - PT S)) (cA G S Hs.size) := by
  refine Met.ofW (cc := cX5_typeProgram) (maxL := 3) (ret := (some .int)) (by decide) rfl ?_
  intro p e s m args below meth c s₁ B hml hv
  obtain ⟨rfl, hsz, hP, hK, hD0, -⟩ := hv
  have hx := B.exec
  have hb := B.bytes
  have hr := B.returns
  have htu : ∀ w ∈ CU, w.before _ s = true := fun w h => atoms_spec (ws := (wC yX5_typeProgram cX5_typeProgram 3 (some .int))) B.pre w (List.mem_cons_of_mem _ h)
  have hown : s.vm.findClass RX5 = some m.cls := findClass_of_methodNamed B.named
  have hlocks := B.notSynchronized
  subst hsz
  have hD : cD (cA G S s.heap.size) G S := cD_self hD0
  have hl := lv_entry ([.ref (ga G 4), .int n]) (n := 3) (Nat.le_of_ble_eq_true rfl)
  rw [lg_entry_eq]
  generalize (lg_sl ([.ref (ga G 4), .int n]) ++ List.replicate (3 - (lg_sl ([.ref (ga G 4), .int n])).length) Slot.unset).toArray = ls at hl ⊢
  have hl : lv_has ls 3 [(0, .ref (ga G 4)), (1, .int n)] := hl
  obtain ⟨H, hHe⟩ : ∃ H : Heap, H = s.heap := ⟨_, rfl⟩
  rw [← hHe] at hP
  have hS : va_S (cA G S s.heap.size) s.heap H [] := by rw [hHe]; exact va_S.rf
  have hh : HS S S := HS.rf
  have hpp : PT S ≤ PT S := Nat.le_refl _
  have hB9 := hC.1
  refine W.heq hHe ?_
  refine c_ent (S := S) ?_
  refine lv_aload_n hx hb dX5_typeProgram_0 rfl (lv_at hl 0 rfl) ?_
  have hC0 := hC
  refine c_cv (c_runV (As := []) (rest := []) (q0 := 4) (ci := 5) ⟨hx, hb, hml, hown, htu⟩ (g_forget l G S  hC  H) (cwV 0 htu hU_X5_74 rfl rfl rfl (by decide +kernel) ⟨show 5 + 1 ≤ 300 by omega, show 8 + (1 + 11) + 148 ≤ 11000 by omega⟩) hP hK hD hC hpp cw_4 rfl rfl hl.1 rfl (lv_room (Nat.le_of_ble_eq_true rfl)) dX5_typeProgram_1) hS hD hh hpp (fun S_2 H locs hw_3 hP hD hS hC hh hs_4 hpp => ?_)
  try dsimp only at hw_3
  have aw_5 : AW [6, 7, 8, 9, 16, 14, 10, 11, 12, 13, 17, 18] [12, 13, 14] S S_2 := hw_3.1
  have aw_5t : AW [6, 7, 8, 9, 16, 14, 10, 11, 12, 13, 17, 18, 23, 24, 25, 26, 35, 19, 20, 21, 22] [8, 9, 10, 11, 12, 13, 14, 201, 300] S S_2 := AW.rf.tr (aw_5.mono (by decide) (by decide))
  have kk_6 : kK S_2 15 = 0 := (aw_5.2.1 15 (lt35 (by decide)) (by decide)).2.trans h15
  have kk_7 : kK S_2 19 = 0 := (aw_5.2.1 19 (lt35 (by decide)) (by decide)).2.trans h19
  have kk_8 : kK S_2 20 = 0 := (aw_5.2.1 20 (lt35 (by decide)) (by decide)).2.trans h20
  have kk_9 : kK S_2 21 = 0 := (aw_5.2.1 21 (lt35 (by decide)) (by decide)).2.trans h21
  have ii_10 : S_2.1 201 = nI sm0 := (aw_5.1 201 (by decide)).trans h201
  have tj_11 : TJ S_2 N := TJ.aw hT aw_5 (by decide)
  obtain ⟨fg_12, fg_1212, fg_1213, fg_1214⟩ := hw_3.2
  refine lv_aload_n hx hb dX5_typeProgram_4 rfl (lv_at hl 0 rfl) ?_
  refine lv_iload_n hx hb dX5_typeProgram_5 rfl (lv_at hl 1 rfl) ?_
  refine c_put4_11 (x := n) hx hb htu hown hK hP hD hS (htu _ C_57) dX5_typeProgram_6 (fun H locs hP hD hS => ?_)
  have S_13h : HS S (cO S_2 11 n) := hh
  have S_13c : CL (cO S_2 11 n) := hC
  have S_13p : PT S ≤ PT (cO S_2 11 n) := hpp
  refine c_eq (S1 := S_2) (S2 := cO S_2 11 n) rfl ?_
  have S_13w : AW [6, 7, 8, 9, 16, 14, 10, 11, 12, 13, 17, 18, 23, 24, 25, 26, 35, 19, 20, 21, 22] [8, 9, 10, 11, 12, 13, 14, 201, 300] S (cO S_2 11 n) := (AW.o aw_5t (by decide))
  have hh := S_13h
  have hC := S_13c
  have hpp := S_13p
  have tj_14 : TJ (cO S_2 11 n) N := tj_11
  have ty_15 : TY (cO S_2 11 n) 2 0 0 0 0 0 := fg_12
  refine lv_aload_n hx hb dX5_typeProgram_9 rfl (lv_at hl 0 rfl) ?_
  refine lv_iload_n hx hb dX5_typeProgram_10 rfl (lv_at hl 1 rfl) ?_
  refine lv_iconst (v := 0) hx hb dX5_typeProgram_11 (by decide) ?_
  refine lv_iconst (v := 1) hx hb dX5_typeProgram_12 (by decide) ?_
  have us_16t : TY (cO S_2 11 n) 2 0 0 0 0 0 := fg_12
  have us_16 : US (cO S_2 11 n) 2 0 0 0 0 0 := ⟨us_16t, ((cO_n (show 12 ≠ 11 by decide)).trans fg_1212), Nat.le_refl _, fun j hj => absurd hj (Nat.not_lt_zero _)⟩
  have hC0 := hC
  refine c_ci (c_runV (As := [.int n, .int 0, .int 1]) (rest := []) (q0 := 4) (ci := 5) ⟨hx, hb, hml, hown, htu⟩ ((g_typed_all 60) l G (cO S_2 11 n) 2 0 0 0 0 0 N 1 0 n hC us_16 ((by decide)) kk_6 tj_14 ((show 1 + 60 = 61 by decide)) ((by decide)) ((by decide)) H) (cwV 3 htu hU_X5_77 rfl rfl rfl (by decide +kernel) ⟨show (2 * 60 + 140) + 1 ≤ 300 by omega, show 8 + (5 + 11) + (60 * 60 + 6500) ≤ 11000 by omega⟩) hP hK hD hC hpp cw_4 rfl rfl hl.1 rfl (lv_room (Nat.le_of_ble_eq_true rfl)) dX5_typeProgram_13) hS hD hh hpp (fun r_17 S_18 H locs hw_19 hP hD hS hC hh hs_20 hpp => ?_)
  try dsimp only at hw_19
  have aw_21 : AW [6, 7, 8, 9, 16, 14, 10, 11, 12, 13, 17, 18, 23, 24, 25, 26, 35] [8, 9, 10, 12, 13] (cO S_2 11 n) S_18 := hw_19.1
  have aw_21t : AW [6, 7, 8, 9, 16, 14, 10, 11, 12, 13, 17, 18, 23, 24, 25, 26, 35, 19, 20, 21, 22] [8, 9, 10, 11, 12, 13, 14, 201, 300] S S_18 := S_13w.tr (aw_21.mono (by decide) (by decide))
  have kk_22 : kK S_18 15 = 0 := (aw_21.2.1 15 (lt35 (by decide)) (by decide)).2.trans kk_6
  have kk_23 : kK S_18 19 = 0 := (aw_21.2.1 19 (lt35 (by decide)) (by decide)).2.trans kk_7
  have kk_24 : kK S_18 20 = 0 := (aw_21.2.1 20 (lt35 (by decide)) (by decide)).2.trans kk_8
  have kk_25 : kK S_18 21 = 0 := (aw_21.2.1 21 (lt35 (by decide)) (by decide)).2.trans kk_9
  have ii_26 : S_18.1 201 = nI sm0 := (aw_21.1 201 (by decide)).trans ((cO_n (show 201 ≠ 11 by decide)).trans ii_10)
  have ii_27 : S_18.1 14 = (-4) := (aw_21.1 14 (by decide)).trans ((cO_n (show 14 ≠ 11 by decide)).trans fg_1214)
  have ii_28 : S_18.1 11 = n := (aw_21.1 11 (by decide)).trans cO_s
  have tj_29 : TJ S_18 N := TJ.aw tj_14 aw_21 (by decide)
  obtain ⟨tp_30T, tp_30V, tp_30X, tp_30Y, tp_30Z, tp_30q, tp_30, -⟩ := hw_19.2
  have tp_30t := tp_30.1
  refine lv_istore_n (lv' := [(2, .int r_17), (0, .ref (ga G 4)), (1, .int n)]) hx hb dX5_typeProgram_16 rfl hl (by decide) rfl (fun ls hl => ?_)
  refine lv_aload_n hx hb dX5_typeProgram_17 rfl (lv_at hl 1 rfl) ?_
  refine lv_iload_n hx hb dX5_typeProgram_18 rfl (lv_at hl 0 rfl) ?_
  refine lv_if_ge (tgt := 26) hx hb dX5_typeProgram_19 (by decide) (fun c_31 => ?_) (fun c_31 => ?_)
  · skip
    refine lv_iconst (v := 0) hx hb dX5_typeProgram_26 (by decide) ?_
    refine c_put4_14 (x := 0) hx hb htu hown hK hP hD hS (htu _ C_59) dX5_typeProgram_27 (fun H locs hP hD hS => ?_)
    have S_32h : HS S (cO S_18 14 0) := hh
    have S_32c : CL (cO S_18 14 0) := hC
    have S_32p : PT S ≤ PT (cO S_18 14 0) := hpp
    refine c_eq (S1 := S_18) (S2 := cO S_18 14 0) rfl ?_
    have S_32w : AW [6, 7, 8, 9, 16, 14, 10, 11, 12, 13, 17, 18, 23, 24, 25, 26, 35, 19, 20, 21, 22] [8, 9, 10, 11, 12, 13, 14, 201, 300] S (cO S_18 14 0) := (AW.o aw_21t (by decide))
    have hh := S_32h
    have hC := S_32c
    have hpp := S_32p
    have tj_33 : TJ (cO S_18 14 0) N := tj_29
    have ty_34 : TY (cO S_18 14 0) tp_30T tp_30V tp_30V tp_30X tp_30Y tp_30Z := tp_30t
    refine lv_aload_n hx hb dX5_typeProgram_30 rfl (lv_at hl 1 rfl) ?_
    refine va_get (D := gD G) (ci := 5) (v := .int 0) (C := RX5) (T := TX5) (N := 15) hx hb htu cu_in5 hown hK hP 4 cw_4 rfl 14 (by decide) (htu _ C_59) (fun _ h9 => h9) (m_v cO_s) dX5_typeProgram_31 ?_
    refine lv_if_eq (tgt := 42) hx hb dX5_typeProgram_34 (by decide) (fun c_35 => ?_) (fun c_35 => absurd (by decide) c_35)
    refine lv_aload_n hx hb dX5_typeProgram_42 rfl (lv_at hl 1 rfl) ?_
    refine va_get (D := gD G) (ci := 5) (v := .ref (ga G 3)) (C := RX5) (T := TX5) (N := 15) hx hb htu cu_in5 hown hK hP 4 cw_4 rfl 2 (by decide) (htu _ C_49) (fun _ h9 => h9) rfl dX5_typeProgram_43 ?_
    refine lv_iload_n hx hb dX5_typeProgram_46 rfl (lv_at hl 0 rfl) ?_
    refine lv_iconst (v := 0) hx hb dX5_typeProgram_47 (by decide) ?_
    refine lv_aload_n hx hb dX5_typeProgram_48 rfl (lv_at hl 1 rfl) ?_
    refine va_get (D := gD G) (ci := 5) (v := .ref (ga G 7)) (C := RX5) (T := TX5) (N := 15) hx hb htu cu_in5 hown hK hP 4 cw_4 rfl 3 (by decide) (htu _ C_51) (fun _ h9 => h9) rfl dX5_typeProgram_49 ?_
    have hC0 := hC
    refine c_cv (c_runV (As := [.int r_17, .int 0, .ref (ga G 7)]) (rest := []) (q0 := 3) (ci := 2) ⟨hx, hb, hml, hown, htu⟩ (l_tell_7 l G (cO S_18 14 0) tp_30T tp_30V tp_30V tp_30X tp_30Y tp_30Z 0 r_17 hC ty_34 ((Nat.le_refl _)) kk_23 kk_24 kk_25 ((by decide)) H) (cwV 3 htu hU_X5_81 rfl rfl rfl (by decide +kernel) ⟨show 5 + 1 ≤ 300 by omega, show 8 + (5 + 11) + 151 ≤ 11000 by omega⟩) hP hK hD hC hpp cw_3 rfl rfl hl.1 rfl (lv_room (Nat.le_of_ble_eq_true rfl)) dX5_typeProgram_52) hS hD hh hpp (fun S_37 H locs hw_38 hP hD hS hC hh hs_39 hpp => ?_)
    try dsimp only at hw_38
    have aw_40 : AW [19, 20, 21, 22] [201, 300] (cO S_18 14 0) S_37 := hw_38.1
    have aw_40t : AW [6, 7, 8, 9, 16, 14, 10, 11, 12, 13, 17, 18, 23, 24, 25, 26, 35, 19, 20, 21, 22] [8, 9, 10, 11, 12, 13, 14, 201, 300] S S_37 := S_32w.tr (aw_40.mono (by decide) (by decide))
    have kk_41 : kK S_37 15 = 0 := (aw_40.2.1 15 (lt35 (by decide)) (by decide)).2.trans kk_22
    have ii_42 : S_37.1 14 = 0 := (aw_40.1 14 (by decide)).trans cO_s
    have ii_43 : S_37.1 11 = n := (aw_40.1 11 (by decide)).trans ((cO_n (show 11 ≠ 14 by decide)).trans ii_28)
    have tj_44 : TJ S_37 N := TJ.aw tj_33 aw_40 (by decide)
    have ty_45 := TY.aw ty_34 aw_40 (by decide)
    obtain ⟨tl_46m, tl_46⟩ := hw_38.2
    refine lv_aload_n hx hb dX5_typeProgram_55 rfl (lv_at hl 1 rfl) ?_
    refine va_get (D := gD G) (ci := 5) (v := .ref (ga G 2)) (C := RX5) (T := TX5) (N := 15) hx hb htu cu_in5 hown hK hP 4 cw_4 rfl 1 (by decide) (htu _ C_45) (fun _ h9 => h9) rfl dX5_typeProgram_56 ?_
    have hC0 := hC
    refine c_ci (c_runV (As := []) (rest := []) (q0 := 2) (ci := 4) ⟨hx, hb, hml, hown, htu⟩ (y_variableCount l G S_37  hC  H) (cwV 0 htu hU_X5_85 rfl rfl rfl (by decide +kernel) ⟨show 0 + 1 ≤ 300 by omega, show 8 + (1 + 11) + 0 ≤ 11000 by omega⟩) hP hK hD hC hpp cw_2 rfl rfl hl.1 rfl (lv_room (Nat.le_of_ble_eq_true rfl)) dX5_typeProgram_59) hS hD hh hpp (fun r_47 S_48 H locs hw_49 hP hD hS hC hh hs_50 hpp => ?_)
    obtain ⟨-, hu9, hw_49⟩ := hw_49
    have hu9 := hu9.symm
    subst hu9
    exact c_iret (v := r_47) hx hb hr hK hP hD hS hC hh hpp ⟨aw_40t, ⟨⟨_, _, _, _, _, ty_45⟩, ⟨kk_41, tl_46.1.1, tl_46.1.2.1, tl_46.1.2.2⟩, _, tl_46.2.1, tl_46.2.2.1⟩⟩ dX5_typeProgram_62 hlocks
  · skip
    refine lv_iload_n hx hb dX5_typeProgram_22 rfl (lv_at hl 0 rfl) ?_
    refine lv_goto (tgt := 27) hx hb dX5_typeProgram_23 (by decide) ?_
    refine c_put4_14 (x := r_17) hx hb htu hown hK hP hD hS (htu _ C_59) dX5_typeProgram_27 (fun H locs hP hD hS => ?_)
    have S_51h : HS S (cO S_18 14 r_17) := hh
    have S_51c : CL (cO S_18 14 r_17) := hC
    have S_51p : PT S ≤ PT (cO S_18 14 r_17) := hpp
    refine c_eq (S1 := S_18) (S2 := cO S_18 14 r_17) rfl ?_
    have S_51w : AW [6, 7, 8, 9, 16, 14, 10, 11, 12, 13, 17, 18, 23, 24, 25, 26, 35, 19, 20, 21, 22] [8, 9, 10, 11, 12, 13, 14, 201, 300] S (cO S_18 14 r_17) := (AW.o aw_21t (by decide))
    have hh := S_51h
    have hC := S_51c
    have hpp := S_51p
    have tj_52 : TJ (cO S_18 14 r_17) N := tj_29
    have ty_53 : TY (cO S_18 14 r_17) tp_30T tp_30V tp_30V tp_30X tp_30Y tp_30Z := tp_30t
    refine lv_aload_n hx hb dX5_typeProgram_30 rfl (lv_at hl 1 rfl) ?_
    refine va_get (D := gD G) (ci := 5) (v := .int r_17) (C := RX5) (T := TX5) (N := 15) hx hb htu cu_in5 hown hK hP 4 cw_4 rfl 14 (by decide) (htu _ C_59) (fun _ h9 => h9) (m_v cO_s) dX5_typeProgram_31 ?_
    refine lv_if_eq (tgt := 42) hx hb dX5_typeProgram_34 (by decide) (fun c_54 => ?_) (fun c_54 => ?_)
    · skip
      refine lv_aload_n hx hb dX5_typeProgram_42 rfl (lv_at hl 1 rfl) ?_
      refine va_get (D := gD G) (ci := 5) (v := .ref (ga G 3)) (C := RX5) (T := TX5) (N := 15) hx hb htu cu_in5 hown hK hP 4 cw_4 rfl 2 (by decide) (htu _ C_49) (fun _ h9 => h9) rfl dX5_typeProgram_43 ?_
      refine lv_iload_n hx hb dX5_typeProgram_46 rfl (lv_at hl 0 rfl) ?_
      refine lv_iconst (v := 0) hx hb dX5_typeProgram_47 (by decide) ?_
      refine lv_aload_n hx hb dX5_typeProgram_48 rfl (lv_at hl 1 rfl) ?_
      refine va_get (D := gD G) (ci := 5) (v := .ref (ga G 7)) (C := RX5) (T := TX5) (N := 15) hx hb htu cu_in5 hown hK hP 4 cw_4 rfl 3 (by decide) (htu _ C_51) (fun _ h9 => h9) rfl dX5_typeProgram_49 ?_
      have hC0 := hC
      refine c_cv (c_runV (As := [.int r_17, .int 0, .ref (ga G 7)]) (rest := []) (q0 := 3) (ci := 2) ⟨hx, hb, hml, hown, htu⟩ (l_tell_7 l G (cO S_18 14 r_17) tp_30T tp_30V tp_30V tp_30X tp_30Y tp_30Z 0 r_17 hC ty_53 ((Nat.le_refl _)) kk_23 kk_24 kk_25 ((by decide)) H) (cwV 3 htu hU_X5_81 rfl rfl rfl (by decide +kernel) ⟨show 5 + 1 ≤ 300 by omega, show 8 + (5 + 11) + 151 ≤ 11000 by omega⟩) hP hK hD hC hpp cw_3 rfl rfl hl.1 rfl (lv_room (Nat.le_of_ble_eq_true rfl)) dX5_typeProgram_52) hS hD hh hpp (fun S_56 H locs hw_57 hP hD hS hC hh hs_58 hpp => ?_)
      try dsimp only at hw_57
      have aw_59 : AW [19, 20, 21, 22] [201, 300] (cO S_18 14 r_17) S_56 := hw_57.1
      have aw_59t : AW [6, 7, 8, 9, 16, 14, 10, 11, 12, 13, 17, 18, 23, 24, 25, 26, 35, 19, 20, 21, 22] [8, 9, 10, 11, 12, 13, 14, 201, 300] S S_56 := S_51w.tr (aw_59.mono (by decide) (by decide))
      have kk_60 : kK S_56 15 = 0 := (aw_59.2.1 15 (lt35 (by decide)) (by decide)).2.trans kk_22
      have ii_61 : S_56.1 14 = r_17 := (aw_59.1 14 (by decide)).trans cO_s
      have ii_62 : S_56.1 11 = n := (aw_59.1 11 (by decide)).trans ((cO_n (show 11 ≠ 14 by decide)).trans ii_28)
      have tj_63 : TJ S_56 N := TJ.aw tj_52 aw_59 (by decide)
      have ty_64 := TY.aw ty_53 aw_59 (by decide)
      obtain ⟨tl_65m, tl_65⟩ := hw_57.2
      refine lv_aload_n hx hb dX5_typeProgram_55 rfl (lv_at hl 1 rfl) ?_
      refine va_get (D := gD G) (ci := 5) (v := .ref (ga G 2)) (C := RX5) (T := TX5) (N := 15) hx hb htu cu_in5 hown hK hP 4 cw_4 rfl 1 (by decide) (htu _ C_45) (fun _ h9 => h9) rfl dX5_typeProgram_56 ?_
      have hC0 := hC
      refine c_ci (c_runV (As := []) (rest := []) (q0 := 2) (ci := 4) ⟨hx, hb, hml, hown, htu⟩ (y_variableCount l G S_56  hC  H) (cwV 0 htu hU_X5_85 rfl rfl rfl (by decide +kernel) ⟨show 0 + 1 ≤ 300 by omega, show 8 + (1 + 11) + 0 ≤ 11000 by omega⟩) hP hK hD hC hpp cw_2 rfl rfl hl.1 rfl (lv_room (Nat.le_of_ble_eq_true rfl)) dX5_typeProgram_59) hS hD hh hpp (fun r_66 S_67 H locs hw_68 hP hD hS hC hh hs_69 hpp => ?_)
      obtain ⟨-, hu9, hw_68⟩ := hw_68
      have hu9 := hu9.symm
      subst hu9
      exact c_iret (v := r_66) hx hb hr hK hP hD hS hC hh hpp ⟨aw_59t, ⟨⟨_, _, _, _, _, ty_64⟩, ⟨kk_60, tl_65.1.1, tl_65.1.2.1, tl_65.1.2.2⟩, _, tl_65.2.1, tl_65.2.2.1⟩⟩ dX5_typeProgram_62 hlocks
    · skip
      refine lv_aload_n hx hb dX5_typeProgram_37 rfl (lv_at hl 1 rfl) ?_
      refine va_get (D := gD G) (ci := 5) (v := .int r_17) (C := RX5) (T := TX5) (N := 15) hx hb htu cu_in5 hown hK hP 4 cw_4 rfl 14 (by decide) (htu _ C_59) (fun _ h9 => h9) (m_v cO_s) dX5_typeProgram_38 ?_
      exact c_iret (v := r_17) hx hb hr hK hP hD hS hC hh hpp ⟨S_51w, ⟨⟨_, _, _, _, _, ty_53⟩, ⟨kk_22, kk_23, kk_24, kk_25⟩, _, ((cO_n (show 201 ≠ 14 by decide)).trans ii_26), hsm⟩⟩ dX5_typeProgram_41 hlocks

