theorem dX4_addType_0 : decode cX4_addType 0 = .ok (.aload_n 0, 1) := by decide +kernel
theorem dX4_addType_1 : decode cX4_addType 1 = .ok (.getfield 12, 3) := by decide +kernel
theorem dX4_addType_4 : decode cX4_addType 4 = .ok (.getfield 69, 3) := by decide +kernel
theorem dX4_addType_7 : decode cX4_addType 7 = .ok (.istore 5, 2) := by decide +kernel
theorem dX4_addType_9 : decode cX4_addType 9 = .ok (.iload 5, 2) := by decide +kernel
theorem dX4_addType_11 : decode cX4_addType 11 = .ok (.sipush 602, 3) := by decide +kernel
theorem dX4_addType_14 : decode cX4_addType 14 = .ok (.if_icmp .lt 6, 3) := by decide +kernel
theorem dX4_addType_20 : decode cX4_addType 20 = .ok (.aload_n 0, 1) := by decide +kernel
theorem dX4_addType_21 : decode cX4_addType 21 = .ok (.getfield 12, 3) := by decide +kernel
theorem dX4_addType_24 : decode cX4_addType 24 = .ok (.iload_n 1, 1) := by decide +kernel
theorem dX4_addType_25 : decode cX4_addType 25 = .ok (.invokevirtual 73, 3) := by decide +kernel
theorem dX4_addType_28 : decode cX4_addType 28 = .ok (.aload_n 0, 1) := by decide +kernel
theorem dX4_addType_29 : decode cX4_addType 29 = .ok (.getfield 18, 3) := by decide +kernel
theorem dX4_addType_32 : decode cX4_addType 32 = .ok (.iload_n 2, 1) := by decide +kernel
theorem dX4_addType_33 : decode cX4_addType 33 = .ok (.invokevirtual 73, 3) := by decide +kernel
theorem dX4_addType_36 : decode cX4_addType 36 = .ok (.aload_n 0, 1) := by decide +kernel
theorem dX4_addType_37 : decode cX4_addType 37 = .ok (.getfield 21, 3) := by decide +kernel
theorem dX4_addType_40 : decode cX4_addType 40 = .ok (.iload_n 3, 1) := by decide +kernel
theorem dX4_addType_41 : decode cX4_addType 41 = .ok (.invokevirtual 73, 3) := by decide +kernel
theorem dX4_addType_44 : decode cX4_addType 44 = .ok (.aload_n 0, 1) := by decide +kernel
theorem dX4_addType_45 : decode cX4_addType 45 = .ok (.getfield 24, 3) := by decide +kernel
theorem dX4_addType_48 : decode cX4_addType 48 = .ok (.iload 4, 2) := by decide +kernel
theorem dX4_addType_50 : decode cX4_addType 50 = .ok (.invokevirtual 73, 3) := by decide +kernel
theorem dX4_addType_53 : decode cX4_addType 53 = .ok (.aload_n 0, 1) := by decide +kernel
theorem dX4_addType_54 : decode cX4_addType 54 = .ok (.getfield 49, 3) := by decide +kernel
theorem dX4_addType_57 : decode cX4_addType 57 = .ok (.bipush (-9), 2) := by decide +kernel
theorem dX4_addType_59 : decode cX4_addType 59 = .ok (.invokevirtual 73, 3) := by decide +kernel
theorem dX4_addType_62 : decode cX4_addType 62 = .ok (.iload 5, 2) := by decide +kernel
theorem dX4_addType_64 : decode cX4_addType 64 = .ok (.ireturn, 1) := by decide +kernel
theorem dX4_addType_17 : decode cX4_addType 17 = .ok (.bipush (-6), 2) := by decide +kernel
theorem dX4_addType_19 : decode cX4_addType 19 = .ok (.ireturn, 1) := by decide +kernel
theorem dX4_addFunction_0 : decode cX4_addFunction 0 = .ok (.aload_n 0, 1) := by decide +kernel
theorem dX4_addFunction_1 : decode cX4_addFunction 1 = .ok (.iconst 2, 1) := by decide +kernel
theorem dX4_addFunction_2 : decode cX4_addFunction 2 = .ok (.aload_n 0, 1) := by decide +kernel
theorem dX4_addFunction_3 : decode cX4_addFunction 3 = .ok (.iload_n 1, 1) := by decide +kernel
theorem dX4_addFunction_4 : decode cX4_addFunction 4 = .ok (.invokevirtual 79, 3) := by decide +kernel
theorem dX4_addFunction_7 : decode cX4_addFunction 7 = .ok (.aload_n 0, 1) := by decide +kernel
theorem dX4_addFunction_8 : decode cX4_addFunction 8 = .ok (.iload_n 2, 1) := by decide +kernel
theorem dX4_addFunction_9 : decode cX4_addFunction 9 = .ok (.invokevirtual 79, 3) := by decide +kernel
theorem dX4_addFunction_12 : decode cX4_addFunction 12 = .ok (.invokestatic 83, 3) := by decide +kernel
theorem dX4_addFunction_15 : decode cX4_addFunction 15 = .ok (.iload_n 1, 1) := by decide +kernel
theorem dX4_addFunction_16 : decode cX4_addFunction 16 = .ok (.iload_n 2, 1) := by decide +kernel
theorem dX4_addFunction_17 : decode cX4_addFunction 17 = .ok (.invokevirtual 65, 3) := by decide +kernel
theorem dX4_addFunction_20 : decode cX4_addFunction 20 = .ok (.ireturn, 1) := by decide +kernel
set_option maxHeartbeats 4000000 in
set_option maxRecDepth 100000 in
/-- addType -/
theorem y_addType (l : Launch) (G : cG) (S : cS) (T : Nat) (V : Nat) (VP : Nat) (X : Nat) (Y : Nat) (Z : Nat) (VQ : Nat) (x : Int32) (lv : Int32) (y : Int32) (w : Int32) (hC : CL S) (hY : TY S T V VP X Y Z) (hVQ : VP ≤ VQ) (h4 : x = 4 → (∃ v, v < VQ ∧ y = nI v) ∧ 0 ≤ lv) (h3 : x = 3 → w ≤ 6) (h5 : x = 2 ∨ x = 3 ∨ x = 4 ∨ lv ≤ 0) (Hs : Heap) : Met l yX4_addType (wC yX4_addType cX4_addType 6 (some .int)) (cRm S 3 103) (cPc G S Hs [.ref (ga G 2), .int x, .int lv, .int y, .int w]) (cQi G S Hs (fun v u => AW [6, 7, 8, 9, 16] [] S u ∧ ((v = -6 ∧ u = S ∧ T = 602) ∨ (v = nI T ∧ T < 602 ∧ TY u (T + 1) V VQ X Y Z ∧ OC S u T ∧ kF u 6 T = x ∧ kF u 8 T = y)))) (CC - PT S) (12 * (CC - PT S)) (cA G S Hs.size) := by
  refine Met.ofW (cc := cX4_addType) (maxL := 6) (ret := (some .int)) (by decide) rfl ?_
  intro p e s m args below meth c s₁ B hml hv
  obtain ⟨rfl, hsz, hP, hK, hD0, -⟩ := hv
  have hx := B.exec
  have hb := B.bytes
  have hr := B.returns
  have htu : ∀ w ∈ CU, w.before _ s = true := fun w h => atoms_spec (ws := (wC yX4_addType cX4_addType 6 (some .int))) B.pre w (List.mem_cons_of_mem _ h)
  have hown : s.vm.findClass RX4 = some m.cls := findClass_of_methodNamed B.named
  have hlocks := B.notSynchronized
  subst hsz
  have hD : cD (cA G S s.heap.size) G S := cD_self hD0
  have hl := lv_entry ([.ref (ga G 2), .int x, .int lv, .int y, .int w]) (n := 6) (Nat.le_of_ble_eq_true rfl)
  rw [lg_entry_eq]
  generalize (lg_sl ([.ref (ga G 2), .int x, .int lv, .int y, .int w]) ++ List.replicate (6 - (lg_sl ([.ref (ga G 2), .int x, .int lv, .int y, .int w])).length) Slot.unset).toArray = ls at hl ⊢
  have hl : lv_has ls 6 [(0, .ref (ga G 2)), (1, .int x), (2, .int lv), (3, .int y), (4, .int w)] := hl
  obtain ⟨H, hHe⟩ : ∃ H : Heap, H = s.heap := ⟨_, rfl⟩
  rw [← hHe] at hP
  have hS : va_S (cA G S s.heap.size) s.heap H [] := by rw [hHe]; exact va_S.rf
  have hh : HS S S := HS.rf
  have hpp : PT S ≤ PT S := Nat.le_refl _
  have hB9 := hC.1
  refine W.heq hHe ?_
  refine c_ent (S := S) ?_
  obtain ⟨⟨k6, k7, k8, k9, k16, k14, k10, k11, k12, k13, k17, k18⟩, ⟨tT, tV, tB, tX⟩, tv, tr, ts⟩ := id hY
  refine lv_aload_n hx hb dX4_addType_0 rfl (lv_at hl 0 rfl) ?_
  refine va_get (D := gD G) (ci := 4) (v := .ref (kH S 6)) (C := RX4) (T := TX4) (N := 14) hx hb htu cu_in4 hown hK hP 2 cw_2 rfl 0 (by decide) (htu _ C_66) (fun _ h9 => h9) rfl dX4_addType_1 ?_
  refine va_get (D := gD G) (ci := 0) (v := .int (nI T)) (C := RX0) (T := TX0) (N := 2) hx hb htu cu_in0 hown hK hP (2 * 6 + 13) (c_hd rfl (cw_row (lt35 (by decide)))) rfl 1 (by decide) (htu _ C_94) (fun _ h9 => h9) (m_v (congrArg nI k6)) dX4_addType_4 ?_
  refine lv_istore (lv' := [(5, .int (nI T)), (0, .ref (ga G 2)), (1, .int x), (2, .int lv), (3, .int y), (4, .int w)]) hx hb dX4_addType_7 hl (by decide) rfl (fun ls hl => ?_)
  refine lv_iload hx hb dX4_addType_9 (lv_at hl 0 rfl) ?_
  refine lv_sipush (v := 602) hx hb dX4_addType_11 (by decide) ?_
  refine lv_icmp_lt (tgt := 20) hx hb dX4_addType_14 (by decide) (fun c_1 => ?_) (fun c_1 => ?_)
  · skip
    have nc_1 : T < 602 := (nI_ltI (a := T) (b := 602) (by omega) (by omega)).mp c_1
    refine lv_aload_n hx hb dX4_addType_20 rfl (lv_at hl 1 rfl) ?_
    refine va_get (D := gD G) (ci := 4) (v := .ref (kH S 6)) (C := RX4) (T := TX4) (N := 14) hx hb htu cu_in4 hown hK hP 2 cw_2 rfl 0 (by decide) (htu _ C_66) (fun _ h9 => h9) rfl dX4_addType_21 ?_
    refine lv_iload_n hx hb dX4_addType_24 rfl (lv_at hl 2 rfl) ?_
    have hC0 := hC
    refine c_cv (c_runV (As := [.int x]) (rest := []) (q0 := (2 * 6 + 13)) (ci := 0) ⟨hx, hb, hml, hown, htu⟩ (c_addA l G S 6 (lt35 (by decide)) hC (kH S 6) rfl x (show kK S 6 < lim 6 by rw [k6, lim_6]; omega) H) (cwV 1 htu hU_X4_73 rfl rfl rfl (by decide +kernel) ⟨Nat.le_of_ble_eq_true rfl, Nat.le_of_ble_eq_true rfl⟩) hP hK hD hC hpp (c_hd rfl (cw_row (lt35 (by decide)))) rfl rfl hl.1 rfl (lv_room (Nat.le_of_ble_eq_true rfl)) dX4_addType_25) hS hD hh hpp (fun S_3 H locs hw_4 hP hD hS hC hh hs_5 hpp => ?_)
    try dsimp only at hw_4
    have aw_6 : AW [6] [] S S_3 := (by obtain ⟨_, _, _, h9, -, -⟩ := hw_4; rw [h9]; exact AW.u (by decide))
    have aw_6t : AW [6, 7, 8, 9, 16] [] S S_3 := AW.rf.tr (aw_6.mono (by decide) (by decide))
    have kk_7 : kK S_3 7 = T := (aw_6.2.1 7 (lt35 (by decide)) (by decide)).2.trans k7
    have kk_8 : kK S_3 8 = T := (aw_6.2.1 8 (lt35 (by decide)) (by decide)).2.trans k8
    have kk_9 : kK S_3 9 = T := (aw_6.2.1 9 (lt35 (by decide)) (by decide)).2.trans k9
    have kk_10 : kK S_3 16 = T := (aw_6.2.1 16 (lt35 (by decide)) (by decide)).2.trans k16
    have kk_11 : kK S_3 14 = V := (aw_6.2.1 14 (lt35 (by decide)) (by decide)).2.trans k14
    have kk_12 : kK S_3 10 = X := (aw_6.2.1 10 (lt35 (by decide)) (by decide)).2.trans k10
    have kk_13 : kK S_3 11 = X := (aw_6.2.1 11 (lt35 (by decide)) (by decide)).2.trans k11
    have kk_14 : kK S_3 12 = Y := (aw_6.2.1 12 (lt35 (by decide)) (by decide)).2.trans k12
    have kk_15 : kK S_3 13 = Y := (aw_6.2.1 13 (lt35 (by decide)) (by decide)).2.trans k13
    have kk_16 : kK S_3 17 = Z := (aw_6.2.1 17 (lt35 (by decide)) (by decide)).2.trans k17
    have kk_17 : kK S_3 18 = Z := (aw_6.2.1 18 (lt35 (by decide)) (by decide)).2.trans k18
    obtain ⟨ad_18n, ad_18q, ad_18g, ad_18u, ad_181, ad_182⟩ := hw_4
    have kk_19 : kK S_3 6 = T + 1 := by rw [ad_18u]; exact uR_K.trans (congrArg (· + 1) k6)
    obtain ⟨fF_20a, fF_20b⟩ := ad_F ad_18u ad_181 ad_182
    refine lv_aload_n hx hb dX4_addType_28 rfl (lv_at hl 1 rfl) ?_
    refine va_get (D := gD G) (ci := 4) (v := .ref (kH S 7)) (C := RX4) (T := TX4) (N := 14) hx hb htu cu_in4 hown hK hP 2 cw_2 rfl 1 (by decide) (htu _ C_67) (fun _ h9 => h9) (c_hv (hh.2 7 (lt35 (by decide)))) dX4_addType_29 ?_
    refine lv_iload_n hx hb dX4_addType_32 rfl (lv_at hl 3 rfl) ?_
    have hC0 := hC
    refine c_cv (c_runV (As := [.int lv]) (rest := []) (q0 := (2 * 7 + 13)) (ci := 0) ⟨hx, hb, hml, hown, htu⟩ (c_addA l G S_3 7 (lt35 (by decide)) hC (kH S 7) (hh.2 7 (lt35 (by decide))) lv (show kK S_3 7 < lim 7 by rw [kk_7, lim_7]; omega) H) (cwV 1 htu hU_X4_73 rfl rfl rfl (by decide +kernel) ⟨Nat.le_of_ble_eq_true rfl, Nat.le_of_ble_eq_true rfl⟩) hP hK hD hC hpp (c_hd (hh.2 7 (lt35 (by decide))) (cw_row (lt35 (by decide)))) rfl rfl hl.1 rfl (lv_room (Nat.le_of_ble_eq_true rfl)) dX4_addType_33) hS hD hh hpp (fun S_22 H locs hw_23 hP hD hS hC hh hs_24 hpp => ?_)
    try dsimp only at hw_23
    have aw_25 : AW [7] [] S_3 S_22 := (by obtain ⟨_, _, _, h9, -, -⟩ := hw_23; rw [h9]; exact AW.u (by decide))
    have aw_25t : AW [6, 7, 8, 9, 16] [] S S_22 := aw_6t.tr (aw_25.mono (by decide) (by decide))
    have kk_26 : kK S_22 8 = T := (aw_25.2.1 8 (lt35 (by decide)) (by decide)).2.trans kk_8
    have kk_27 : kK S_22 9 = T := (aw_25.2.1 9 (lt35 (by decide)) (by decide)).2.trans kk_9
    have kk_28 : kK S_22 16 = T := (aw_25.2.1 16 (lt35 (by decide)) (by decide)).2.trans kk_10
    have kk_29 : kK S_22 14 = V := (aw_25.2.1 14 (lt35 (by decide)) (by decide)).2.trans kk_11
    have kk_30 : kK S_22 10 = X := (aw_25.2.1 10 (lt35 (by decide)) (by decide)).2.trans kk_12
    have kk_31 : kK S_22 11 = X := (aw_25.2.1 11 (lt35 (by decide)) (by decide)).2.trans kk_13
    have kk_32 : kK S_22 12 = Y := (aw_25.2.1 12 (lt35 (by decide)) (by decide)).2.trans kk_14
    have kk_33 : kK S_22 13 = Y := (aw_25.2.1 13 (lt35 (by decide)) (by decide)).2.trans kk_15
    have kk_34 : kK S_22 17 = Z := (aw_25.2.1 17 (lt35 (by decide)) (by decide)).2.trans kk_16
    have kk_35 : kK S_22 18 = Z := (aw_25.2.1 18 (lt35 (by decide)) (by decide)).2.trans kk_17
    have kk_36 : kK S_22 6 = T + 1 := (aw_25.2.1 6 (lt35 (by decide)) (by decide)).2.trans kk_19
    obtain ⟨ad_37n, ad_37q, ad_37g, ad_37u, ad_371, ad_372⟩ := hw_23
    have kk_38 : kK S_22 7 = T + 1 := by rw [ad_37u]; exact uR_K.trans (congrArg (· + 1) kk_7)
    obtain ⟨fF_39a, fF_39b⟩ := ad_F ad_37u ad_371 ad_372
    refine lv_aload_n hx hb dX4_addType_36 rfl (lv_at hl 1 rfl) ?_
    refine va_get (D := gD G) (ci := 4) (v := .ref (kH S 8)) (C := RX4) (T := TX4) (N := 14) hx hb htu cu_in4 hown hK hP 2 cw_2 rfl 2 (by decide) (htu _ C_68) (fun _ h9 => h9) (c_hv (hh.2 8 (lt35 (by decide)))) dX4_addType_37 ?_
    refine lv_iload_n hx hb dX4_addType_40 rfl (lv_at hl 4 rfl) ?_
    have hC0 := hC
    refine c_cv (c_runV (As := [.int y]) (rest := []) (q0 := (2 * 8 + 13)) (ci := 0) ⟨hx, hb, hml, hown, htu⟩ (c_addA l G S_22 8 (lt35 (by decide)) hC (kH S 8) (hh.2 8 (lt35 (by decide))) y (show kK S_22 8 < lim 8 by rw [kk_26, lim_8]; omega) H) (cwV 1 htu hU_X4_73 rfl rfl rfl (by decide +kernel) ⟨Nat.le_of_ble_eq_true rfl, Nat.le_of_ble_eq_true rfl⟩) hP hK hD hC hpp (c_hd (hh.2 8 (lt35 (by decide))) (cw_row (lt35 (by decide)))) rfl rfl hl.1 rfl (lv_room (Nat.le_of_ble_eq_true rfl)) dX4_addType_41) hS hD hh hpp (fun S_41 H locs hw_42 hP hD hS hC hh hs_43 hpp => ?_)
    try dsimp only at hw_42
    have aw_44 : AW [8] [] S_22 S_41 := (by obtain ⟨_, _, _, h9, -, -⟩ := hw_42; rw [h9]; exact AW.u (by decide))
    have aw_44t : AW [6, 7, 8, 9, 16] [] S S_41 := aw_25t.tr (aw_44.mono (by decide) (by decide))
    have kk_45 : kK S_41 9 = T := (aw_44.2.1 9 (lt35 (by decide)) (by decide)).2.trans kk_27
    have kk_46 : kK S_41 16 = T := (aw_44.2.1 16 (lt35 (by decide)) (by decide)).2.trans kk_28
    have kk_47 : kK S_41 14 = V := (aw_44.2.1 14 (lt35 (by decide)) (by decide)).2.trans kk_29
    have kk_48 : kK S_41 10 = X := (aw_44.2.1 10 (lt35 (by decide)) (by decide)).2.trans kk_30
    have kk_49 : kK S_41 11 = X := (aw_44.2.1 11 (lt35 (by decide)) (by decide)).2.trans kk_31
    have kk_50 : kK S_41 12 = Y := (aw_44.2.1 12 (lt35 (by decide)) (by decide)).2.trans kk_32
    have kk_51 : kK S_41 13 = Y := (aw_44.2.1 13 (lt35 (by decide)) (by decide)).2.trans kk_33
    have kk_52 : kK S_41 17 = Z := (aw_44.2.1 17 (lt35 (by decide)) (by decide)).2.trans kk_34
    have kk_53 : kK S_41 18 = Z := (aw_44.2.1 18 (lt35 (by decide)) (by decide)).2.trans kk_35
    have kk_54 : kK S_41 6 = T + 1 := (aw_44.2.1 6 (lt35 (by decide)) (by decide)).2.trans kk_36
    have kk_55 : kK S_41 7 = T + 1 := (aw_44.2.1 7 (lt35 (by decide)) (by decide)).2.trans kk_38
    obtain ⟨ad_56n, ad_56q, ad_56g, ad_56u, ad_561, ad_562⟩ := hw_42
    have kk_57 : kK S_41 8 = T + 1 := by rw [ad_56u]; exact uR_K.trans (congrArg (· + 1) kk_26)
    obtain ⟨fF_58a, fF_58b⟩ := ad_F ad_56u ad_561 ad_562
    refine lv_aload_n hx hb dX4_addType_44 rfl (lv_at hl 1 rfl) ?_
    refine va_get (D := gD G) (ci := 4) (v := .ref (kH S 9)) (C := RX4) (T := TX4) (N := 14) hx hb htu cu_in4 hown hK hP 2 cw_2 rfl 3 (by decide) (htu _ C_69) (fun _ h9 => h9) (c_hv (hh.2 9 (lt35 (by decide)))) dX4_addType_45 ?_
    refine lv_iload hx hb dX4_addType_48 (lv_at hl 5 rfl) ?_
    have hC0 := hC
    refine c_cv (c_runV (As := [.int w]) (rest := []) (q0 := (2 * 9 + 13)) (ci := 0) ⟨hx, hb, hml, hown, htu⟩ (c_addA l G S_41 9 (lt35 (by decide)) hC (kH S 9) (hh.2 9 (lt35 (by decide))) w (show kK S_41 9 < lim 9 by rw [kk_45, lim_9]; omega) H) (cwV 1 htu hU_X4_73 rfl rfl rfl (by decide +kernel) ⟨Nat.le_of_ble_eq_true rfl, Nat.le_of_ble_eq_true rfl⟩) hP hK hD hC hpp (c_hd (hh.2 9 (lt35 (by decide))) (cw_row (lt35 (by decide)))) rfl rfl hl.1 rfl (lv_room (Nat.le_of_ble_eq_true rfl)) dX4_addType_50) hS hD hh hpp (fun S_60 H locs hw_61 hP hD hS hC hh hs_62 hpp => ?_)
    try dsimp only at hw_61
    have aw_63 : AW [9] [] S_41 S_60 := (by obtain ⟨_, _, _, h9, -, -⟩ := hw_61; rw [h9]; exact AW.u (by decide))
    have aw_63t : AW [6, 7, 8, 9, 16] [] S S_60 := aw_44t.tr (aw_63.mono (by decide) (by decide))
    have kk_64 : kK S_60 16 = T := (aw_63.2.1 16 (lt35 (by decide)) (by decide)).2.trans kk_46
    have kk_65 : kK S_60 14 = V := (aw_63.2.1 14 (lt35 (by decide)) (by decide)).2.trans kk_47
    have kk_66 : kK S_60 10 = X := (aw_63.2.1 10 (lt35 (by decide)) (by decide)).2.trans kk_48
    have kk_67 : kK S_60 11 = X := (aw_63.2.1 11 (lt35 (by decide)) (by decide)).2.trans kk_49
    have kk_68 : kK S_60 12 = Y := (aw_63.2.1 12 (lt35 (by decide)) (by decide)).2.trans kk_50
    have kk_69 : kK S_60 13 = Y := (aw_63.2.1 13 (lt35 (by decide)) (by decide)).2.trans kk_51
    have kk_70 : kK S_60 17 = Z := (aw_63.2.1 17 (lt35 (by decide)) (by decide)).2.trans kk_52
    have kk_71 : kK S_60 18 = Z := (aw_63.2.1 18 (lt35 (by decide)) (by decide)).2.trans kk_53
    have kk_72 : kK S_60 6 = T + 1 := (aw_63.2.1 6 (lt35 (by decide)) (by decide)).2.trans kk_54
    have kk_73 : kK S_60 7 = T + 1 := (aw_63.2.1 7 (lt35 (by decide)) (by decide)).2.trans kk_55
    have kk_74 : kK S_60 8 = T + 1 := (aw_63.2.1 8 (lt35 (by decide)) (by decide)).2.trans kk_57
    obtain ⟨ad_75n, ad_75q, ad_75g, ad_75u, ad_751, ad_752⟩ := hw_61
    have kk_76 : kK S_60 9 = T + 1 := by rw [ad_75u]; exact uR_K.trans (congrArg (· + 1) kk_45)
    obtain ⟨fF_77a, fF_77b⟩ := ad_F ad_75u ad_751 ad_752
    refine lv_aload_n hx hb dX4_addType_53 rfl (lv_at hl 1 rfl) ?_
    refine va_get (D := gD G) (ci := 4) (v := .ref (kH S 16)) (C := RX4) (T := TX4) (N := 14) hx hb htu cu_in4 hown hK hP 2 cw_2 rfl 11 (by decide) (htu _ C_77) (fun _ h9 => h9) (c_hv (hh.2 16 (lt35 (by decide)))) dX4_addType_54 ?_
    refine lv_bipush (v := (-9)) hx hb dX4_addType_57 (by decide) ?_
    have hC0 := hC
    refine c_cv (c_runV (As := [.int ((-9))]) (rest := []) (q0 := (2 * 16 + 13)) (ci := 0) ⟨hx, hb, hml, hown, htu⟩ (c_addA l G S_60 16 (lt35 (by decide)) hC (kH S 16) (hh.2 16 (lt35 (by decide))) ((-9)) (show kK S_60 16 < lim 16 by rw [kk_64, lim_16]; omega) H) (cwV 1 htu hU_X4_73 rfl rfl rfl (by decide +kernel) ⟨Nat.le_of_ble_eq_true rfl, Nat.le_of_ble_eq_true rfl⟩) hP hK hD hC hpp (c_hd (hh.2 16 (lt35 (by decide))) (cw_row (lt35 (by decide)))) rfl rfl hl.1 rfl (lv_room (Nat.le_of_ble_eq_true rfl)) dX4_addType_59) hS hD hh hpp (fun S_79 H locs hw_80 hP hD hS hC hh hs_81 hpp => ?_)
    try dsimp only at hw_80
    have aw_82 : AW [16] [] S_60 S_79 := (by obtain ⟨_, _, _, h9, -, -⟩ := hw_80; rw [h9]; exact AW.u (by decide))
    have aw_82t : AW [6, 7, 8, 9, 16] [] S S_79 := aw_63t.tr (aw_82.mono (by decide) (by decide))
    have kk_83 : kK S_79 14 = V := (aw_82.2.1 14 (lt35 (by decide)) (by decide)).2.trans kk_65
    have kk_84 : kK S_79 10 = X := (aw_82.2.1 10 (lt35 (by decide)) (by decide)).2.trans kk_66
    have kk_85 : kK S_79 11 = X := (aw_82.2.1 11 (lt35 (by decide)) (by decide)).2.trans kk_67
    have kk_86 : kK S_79 12 = Y := (aw_82.2.1 12 (lt35 (by decide)) (by decide)).2.trans kk_68
    have kk_87 : kK S_79 13 = Y := (aw_82.2.1 13 (lt35 (by decide)) (by decide)).2.trans kk_69
    have kk_88 : kK S_79 17 = Z := (aw_82.2.1 17 (lt35 (by decide)) (by decide)).2.trans kk_70
    have kk_89 : kK S_79 18 = Z := (aw_82.2.1 18 (lt35 (by decide)) (by decide)).2.trans kk_71
    have kk_90 : kK S_79 6 = T + 1 := (aw_82.2.1 6 (lt35 (by decide)) (by decide)).2.trans kk_72
    have kk_91 : kK S_79 7 = T + 1 := (aw_82.2.1 7 (lt35 (by decide)) (by decide)).2.trans kk_73
    have kk_92 : kK S_79 8 = T + 1 := (aw_82.2.1 8 (lt35 (by decide)) (by decide)).2.trans kk_74
    have kk_93 : kK S_79 9 = T + 1 := (aw_82.2.1 9 (lt35 (by decide)) (by decide)).2.trans kk_76
    obtain ⟨ad_94n, ad_94q, ad_94g, ad_94u, ad_941, ad_942⟩ := hw_80
    have kk_95 : kK S_79 16 = T + 1 := by rw [ad_94u]; exact uR_K.trans (congrArg (· + 1) kk_64)
    obtain ⟨fF_96a, fF_96b⟩ := ad_F ad_94u ad_941 ad_942
    refine lv_iload hx hb dX4_addType_62 (lv_at hl 0 rfl) ?_
    have e6o : kF S 6 = kF S 6 := rfl
    have e6k : kK S 6 = T := k6
    have e6n : kF S_79 6 = kF S_3 6 := ((aw_82.2.1 6 (lt35 (by decide)) (by decide)).1.trans ((aw_63.2.1 6 (lt35 (by decide)) (by decide)).1.trans ((aw_44.2.1 6 (lt35 (by decide)) (by decide)).1.trans ((aw_25.2.1 6 (lt35 (by decide)) (by decide)).1.trans rfl))))
    have e6a : ∀ j, j < T → kF S_79 6 j = kF S 6 j := fun j hj => by rw [e6n, fF_20a j (by rw [e6k]; exact hj), e6o]
    have e6b : kF S_79 6 T = x := by rw [e6n, ← e6k]; exact fF_20b
    have e7o : kF S_3 7 = kF S 7 := ((aw_6.2.1 7 (lt35 (by decide)) (by decide)).1.trans rfl)
    have e7k : kK S_3 7 = T := ((aw_6.2.1 7 (lt35 (by decide)) (by decide)).2.trans k7)
    have e7n : kF S_79 7 = kF S_22 7 := ((aw_82.2.1 7 (lt35 (by decide)) (by decide)).1.trans ((aw_63.2.1 7 (lt35 (by decide)) (by decide)).1.trans ((aw_44.2.1 7 (lt35 (by decide)) (by decide)).1.trans rfl)))
    have e7a : ∀ j, j < T → kF S_79 7 j = kF S 7 j := fun j hj => by rw [e7n, fF_39a j (by rw [e7k]; exact hj), e7o]
    have e7b : kF S_79 7 T = lv := by rw [e7n, ← e7k]; exact fF_39b
    have e8o : kF S_22 8 = kF S 8 := ((aw_25.2.1 8 (lt35 (by decide)) (by decide)).1.trans ((aw_6.2.1 8 (lt35 (by decide)) (by decide)).1.trans rfl))
    have e8k : kK S_22 8 = T := ((aw_25.2.1 8 (lt35 (by decide)) (by decide)).2.trans ((aw_6.2.1 8 (lt35 (by decide)) (by decide)).2.trans k8))
    have e8n : kF S_79 8 = kF S_41 8 := ((aw_82.2.1 8 (lt35 (by decide)) (by decide)).1.trans ((aw_63.2.1 8 (lt35 (by decide)) (by decide)).1.trans rfl))
    have e8a : ∀ j, j < T → kF S_79 8 j = kF S 8 j := fun j hj => by rw [e8n, fF_58a j (by rw [e8k]; exact hj), e8o]
    have e8b : kF S_79 8 T = y := by rw [e8n, ← e8k]; exact fF_58b
    have e9o : kF S_41 9 = kF S 9 := ((aw_44.2.1 9 (lt35 (by decide)) (by decide)).1.trans ((aw_25.2.1 9 (lt35 (by decide)) (by decide)).1.trans ((aw_6.2.1 9 (lt35 (by decide)) (by decide)).1.trans rfl)))
    have e9k : kK S_41 9 = T := ((aw_44.2.1 9 (lt35 (by decide)) (by decide)).2.trans ((aw_25.2.1 9 (lt35 (by decide)) (by decide)).2.trans ((aw_6.2.1 9 (lt35 (by decide)) (by decide)).2.trans k9)))
    have e9n : kF S_79 9 = kF S_60 9 := ((aw_82.2.1 9 (lt35 (by decide)) (by decide)).1.trans rfl)
    have e9a : ∀ j, j < T → kF S_79 9 j = kF S 9 j := fun j hj => by rw [e9n, fF_77a j (by rw [e9k]; exact hj), e9o]
    have e9b : kF S_79 9 T = w := by rw [e9n, ← e9k]; exact fF_77b
    have hnew : TY S_79 (T + 1) V VQ X Y Z := by
      refine ⟨⟨kk_90, kk_91, kk_92, kk_93, kk_95, kk_83, kk_84, kk_85, kk_86, kk_87, kk_88, kk_89⟩, ⟨Nat.succ_le_of_lt nc_1, tV, Nat.le_trans tB aw_82t.2.2.2.1, Nat.le_trans tX (Nat.mul_le_mul_left 6 (Nat.le_succ T))⟩, fun t ht h => ?_, fun t ht h => ?_, fun t ht => ?_⟩
      · rcases Nat.lt_or_ge t T with h1 | h1
        · rw [e6a t h1] at h
          obtain ⟨⟨v, hv1, hv2⟩, hv3⟩ := tv t h1 h
          exact ⟨⟨v, Nat.lt_of_lt_of_le hv1 hVQ, by rw [e8a t h1]; exact hv2⟩, by rw [e7a t h1]; exact hv3⟩
        · have ht2 : t = T := Nat.le_antisymm (Nat.le_of_lt_succ ht) h1
          rw [ht2, e6b] at h
          rw [ht2, e8b, e7b]
          exact h4 h
      · rcases Nat.lt_or_ge t T with h1 | h1
        · rw [e6a t h1] at h
          rw [e9a t h1]
          exact tr t h1 h
        · have ht2 : t = T := Nat.le_antisymm (Nat.le_of_lt_succ ht) h1
          rw [ht2, e6b] at h
          rw [ht2, e9b]
          exact h3 h
      · rcases Nat.lt_or_ge t T with h1 | h1
        · rw [e6a t h1, e7a t h1]
          exact ts t h1
        · have ht2 : t = T := Nat.le_antisymm (Nat.le_of_lt_succ ht) h1
          rw [ht2, e6b, e7b]
          exact h5
    exact c_iret (v := nI T) hx hb hr hK hP hD hS hC hh hpp ⟨aw_82t, (Or.inr ⟨rfl, nc_1, hnew, (fun t ht => ⟨e6a t ht, e8a t ht⟩), e6b, e8b⟩)⟩ dX4_addType_64 hlocks
  · skip
    have nc_1 : ¬ T < 602 := fun h9 => c_1 ((nI_ltI (a := T) (b := 602) (by omega) (by omega)).mpr h9)
    refine lv_bipush (v := (-6)) hx hb dX4_addType_17 (by decide) ?_
    exact c_iret (v := (-6)) hx hb hr hK hP hD hS hC hh hpp ⟨AW.rf, (Or.inl ⟨rfl, rfl, Nat.le_antisymm tT (Nat.not_lt.mp nc_1)⟩)⟩ dX4_addType_19 hlocks

set_option maxHeartbeats 4000000 in
set_option maxRecDepth 100000 in
/-- addFunction -/
theorem y_addFunction (l : Launch) (G : cG) (S : cS) (T : Nat) (V : Nat) (VP : Nat) (X : Nat) (Y : Nat) (Z : Nat) (x : Int32) (y : Int32) (hC : CL S) (hY : TY S T V VP X Y Z) (Hs : Heap) : Met l yX4_addFunction (wC yX4_addFunction cX4_addFunction 3 (some .int)) (cRm S 4 128) (cPc G S Hs [.ref (ga G 2), .int x, .int y]) (cQi G S Hs (fun v u => AW [6, 7, 8, 9, 16] [] S u ∧ ((v = -6 ∧ u = S) ∨ (v = nI T ∧ T < 602 ∧ TY u (T + 1) V VP X Y Z ∧ OC S u T)))) (CC - PT S) (12 * (CC - PT S)) (cA G S Hs.size) := by
  refine Met.ofW (cc := cX4_addFunction) (maxL := 3) (ret := (some .int)) (by decide) rfl ?_
  intro p e s m args below meth c s₁ B hml hv
  obtain ⟨rfl, hsz, hP, hK, hD0, -⟩ := hv
  have hx := B.exec
  have hb := B.bytes
  have hr := B.returns
  have htu : ∀ w ∈ CU, w.before _ s = true := fun w h => atoms_spec (ws := (wC yX4_addFunction cX4_addFunction 3 (some .int))) B.pre w (List.mem_cons_of_mem _ h)
  have hown : s.vm.findClass RX4 = some m.cls := findClass_of_methodNamed B.named
  have hlocks := B.notSynchronized
  subst hsz
  have hD : cD (cA G S s.heap.size) G S := cD_self hD0
  have hl := lv_entry ([.ref (ga G 2), .int x, .int y]) (n := 3) (Nat.le_of_ble_eq_true rfl)
  rw [lg_entry_eq]
  generalize (lg_sl ([.ref (ga G 2), .int x, .int y]) ++ List.replicate (3 - (lg_sl ([.ref (ga G 2), .int x, .int y])).length) Slot.unset).toArray = ls at hl ⊢
  have hl : lv_has ls 3 [(0, .ref (ga G 2)), (1, .int x), (2, .int y)] := hl
  obtain ⟨H, hHe⟩ : ∃ H : Heap, H = s.heap := ⟨_, rfl⟩
  rw [← hHe] at hP
  have hS : va_S (cA G S s.heap.size) s.heap H [] := by rw [hHe]; exact va_S.rf
  have hh : HS S S := HS.rf
  have hpp : PT S ≤ PT S := Nat.le_refl _
  have hB9 := hC.1
  refine W.heq hHe ?_
  refine c_ent (S := S) ?_
  obtain ⟨⟨k6, k7, k8, k9, k16, k14, k10, k11, k12, k13, k17, k18⟩, ⟨tT, tV, tB, tX⟩, tv, tr, ts⟩ := id hY
  refine lv_aload_n hx hb dX4_addFunction_0 rfl (lv_at hl 0 rfl) ?_
  refine lv_iconst (v := 2) hx hb dX4_addFunction_1 (by decide) ?_
  refine lv_aload_n hx hb dX4_addFunction_2 rfl (lv_at hl 0 rfl) ?_
  refine lv_iload_n hx hb dX4_addFunction_3 rfl (lv_at hl 1 rfl) ?_
  have hC0 := hC
  refine c_ci (c_runV (As := [.int x]) (rest := [.int 2, .ref (ga G 2)]) (q0 := 2) (ci := 4) ⟨hx, hb, hml, hown, htu⟩ (y_levelOf l G S x hC  H) (cwV 1 htu hU_X4_79 rfl rfl rfl (by decide +kernel) ⟨Nat.le_of_ble_eq_true rfl, Nat.le_of_ble_eq_true rfl⟩) hP hK hD hC hpp cw_2 rfl rfl hl.1 rfl (lv_room (Nat.le_of_ble_eq_true rfl)) dX4_addFunction_4) hS hD hh hpp (fun r_1 S_2 H locs hw_3 hP hD hS hC hh hs_4 hpp => ?_)
  obtain ⟨-, hu9, hw_3⟩ := hw_3
  have hu9 := hu9.symm
  subst hu9
  refine lv_aload_n hx hb dX4_addFunction_7 rfl (lv_at hl 0 rfl) ?_
  refine lv_iload_n hx hb dX4_addFunction_8 rfl (lv_at hl 2 rfl) ?_
  have hC0 := hC
  refine c_ci (c_runV (As := [.int y]) (rest := [.int r_1, .int 2, .ref (ga G 2)]) (q0 := 2) (ci := 4) ⟨hx, hb, hml, hown, htu⟩ (y_levelOf l G S y hC  H) (cwV 1 htu hU_X4_79 rfl rfl rfl (by decide +kernel) ⟨Nat.le_of_ble_eq_true rfl, Nat.le_of_ble_eq_true rfl⟩) hP hK hD hC hpp cw_2 rfl rfl hl.1 rfl (lv_room (Nat.le_of_ble_eq_true rfl)) dX4_addFunction_9) hS hD hh hpp (fun r_5 S_6 H locs hw_7 hP hD hS hC hh hs_8 hpp => ?_)
  obtain ⟨-, hu9, hw_7⟩ := hw_7
  have hu9 := hu9.symm
  subst hu9
  refine va_mmax hx hb (by rw [hml]; exact hl.1.symm) hown (htu _ C_338) (htu _ C_139) (htu _ C_111) (htu _ C_140) (Nat.le_of_ble_eq_true rfl) (Nat.le_of_ble_eq_true rfl) (c_b1 hpp hC) (c_b2 hpp hC) dX4_addFunction_12 ?_
  refine lv_topi (fun f_9 ef_9 => ?_)
  refine lv_iload_n hx hb dX4_addFunction_15 rfl (lv_at hl 1 rfl) ?_
  refine lv_iload_n hx hb dX4_addFunction_16 rfl (lv_at hl 2 rfl) ?_
  have hC0 := hC
  refine c_ci (c_runV (As := [.int 2, .int f_9, .int x, .int y]) (rest := []) (q0 := 2) (ci := 4) ⟨hx, hb, hml, hown, htu⟩ (y_addType l G S T V VP X Y Z VP 2 f_9 x y hC hY ((Nat.le_refl _)) ((fun h => absurd h (by decide))) ((fun h => absurd h (by decide))) ((Or.inl rfl)) H) (cwV 4 htu hU_X4_65 rfl rfl rfl (by decide +kernel) ⟨Nat.le_of_ble_eq_true rfl, Nat.le_of_ble_eq_true rfl⟩) hP hK hD hC hpp cw_2 rfl rfl hl.1 rfl (lv_room (Nat.le_of_ble_eq_true rfl)) dX4_addFunction_17) hS hD hh hpp (fun r_10 S_11 H locs hw_12 hP hD hS hC hh hs_13 hpp => ?_)
  try dsimp only at hw_12
  have aw_14 : AW [6, 7, 8, 9, 16] [] S S_11 := hw_12.1
  have aw_14t : AW [6, 7, 8, 9, 16] [] S S_11 := AW.rf.tr (aw_14.mono (by decide) (by decide))
  rcases hw_12.2 with ⟨ty_15v, ty_15s⟩ | ⟨ty_15v, ty_15t, ty_15, ty_15o, ty_154, ty_158⟩
  · skip
    subst ty_15v
    exact c_iret (v := (-6)) hx hb hr hK hP hD hS hC hh hpp ⟨aw_14t, (Or.inl ⟨rfl, ty_15s.1⟩)⟩ dX4_addFunction_20 hlocks
  · skip
    subst ty_15v
    exact c_iret (v := nI T) hx hb hr hK hP hD hS hC hh hpp ⟨aw_14t, (Or.inr ⟨rfl, ty_15t, ty_15, ty_15o⟩)⟩ dX4_addFunction_20 hlocks

