set_option maxHeartbeats 4000000 in
set_option maxRecDepth 100000 in
/-- typeProgram -/
theorem xz_typeProgram (l : Launch) (G : cG) (S : cS) (N : Nat) (sm0 : Nat) (tr : aM) (mk : Nat → Int32) (rk : Nat → Nat) (n9 : Nat) (tm : Nat) (hC : CL S) (hT : TJ S N) (h15 : kK S 15 = 0) (h19 : kK S 19 = 0) (h20 : kK S 20 = 0) (h21 : kK S 21 = 0) (h201 : S.1 201 = nI sm0) (hsm : sm0 ≤ 400) (hE : TC S tr mk N) (hO : TO S tr N) (hrk : RKs tr rk N) (hn : n9 < N) (h8 : S.1 8 = nI tm) (hm0 : KM0 S tm) (htm : tm + 1501 + cntT tr 60 n9 ≤ 2 ^ 29) (hk2 : kK S 23 = 120 ∧ kK S 24 = 120) (hso : SO S w00) (Hs : Heap) : Met l yX5_typeProgram (wC yX5_typeProgram cX5_typeProgram 3 (some .int)) (cRm S 300 11000) (cPc G S Hs [.ref (ga G 4), .int (nI n9)]) (cQi G S Hs (fun v u => AW [6, 7, 8, 9, 16, 14, 10, 11, 12, 13, 17, 18, 23, 24, 25, 26, 35, 19, 20, 21, 22] [8, 9, 10, 11, 12, 13, 14, 201, 300] S u ∧ (((∃ T V X Y Z, TY u T V V X Y Z) ∧ (kK u 15 = 0 ∧ kK u 19 = 0 ∧ kK u 20 = 0 ∧ kK u 21 = 0) ∧ ∃ sm, u.1 201 = nI sm ∧ sm ≤ 400) ∧ (∃ tm', KL u (ty tr n9 60 (zS n9) n9 0).1 tm' ∧ tm' ≤ tm + 1500 + cntT tr 60 n9) ∧ v = tans (ty tr n9 60 (zS n9) n9 0) ∧ u.1 14 = sc (sto (ty tr n9 60 (zS n9) n9 0).1) ∧ SO u w00 ∧ (sto (ty tr n9 60 (zS n9) n9 0).1 = 0 → (ty tr n9 60 (zS n9) n9 0).2 < nT (ty tr n9 60 (zS n9) n9 0).1 ∧ SG u 401 (TX9 (ty tr n9 60 (zS n9) n9 0).1 (ty tr n9 60 (zS n9) n9 0).2 0))))) (CC - PT S) (12 * (CC - PT S)) (cA G S Hs.size) := by
  refine Met.ofW (cc := cX5_typeProgram) (maxL := 3) (ret := (some .int)) (by decide) rfl ?_
  intro p e s m args below meth c s₁ B hml hv
  obtain ⟨rfl, hsz, hP, hK, hD0, -⟩ := hv
  have hx := B.exec
  have hb := B.bytes
  have hr := B.returns
  have htu : ∀ w ∈ CU, w.before _ s = true := fun w h => atoms_spec (ws := (wC yX5_typeProgram cX5_typeProgram 3 (some .int))) B.pre w (List.mem_cons_of_mem _ h)
  have hown : s.vm.findClass RX5 = some m.cls := findClass_of_methodNamed B.named
  have hlocks := B.notSynchronized
  subst hsz
  have hD : cD (cA G S s.heap.size) G S := cD_self hD0
  have hl := lv_entry ([.ref (ga G 4), .int (nI n9)]) (n := 3) (Nat.le_of_ble_eq_true rfl)
  rw [lg_entry_eq]
  generalize (lg_sl ([.ref (ga G 4), .int (nI n9)]) ++ List.replicate (3 - (lg_sl ([.ref (ga G 4), .int (nI n9)])).length) Slot.unset).toArray = ls at hl ⊢
  have hl : lv_has ls 3 [(0, .ref (ga G 4)), (1, .int (nI n9))] := hl
  obtain ⟨H, hHe⟩ : ∃ H : Heap, H = s.heap := ⟨_, rfl⟩
  rw [← hHe] at hP
  have hS : va_S (cA G S s.heap.size) s.heap H [] := by rw [hHe]; exact va_S.rf
  have hh : HS S S := HS.rf
  have hpp : PT S ≤ PT S := Nat.le_refl _
  have hB9 := hC.1
  refine W.heq hHe ?_
  refine c_ent (S := S) ?_
  refine lv_aload_n hx hb dX5_typeProgram_0 rfl (lv_at hl 0 rfl) ?_
  have hC0 := hC
  refine c_cv (c_runV (As := []) (rest := []) (q0 := 4) (ci := 5) ⟨hx, hb, hml, hown, htu⟩ (x_forget l G S  hC  H) (cwV 0 htu hU_X5_74 rfl rfl rfl (by decide +kernel) ⟨show 5 + 1 ≤ 300 by omega, show 8 + (1 + 11) + 148 ≤ 11000 by omega⟩) hP hK hD hC hpp cw_4 rfl rfl hl.1 rfl (lv_room (Nat.le_of_ble_eq_true rfl)) dX5_typeProgram_1) hS hD hh hpp (fun S_2 H locs hw_3 hP hD hS hC hh hs_4 hpq => ?_)
  clear hpp
  have hpp := hpq
  clear hpq
  try dsimp only at hw_3
  have aw_5 : AW [6, 7, 8, 9, 16, 14, 10, 11, 12, 13, 17, 18] [12, 13, 14] S S_2 := hw_3.1
  have aw_5t : AW [6, 7, 8, 9, 16, 14, 10, 11, 12, 13, 17, 18, 23, 24, 25, 26, 35, 19, 20, 21, 22] [8, 9, 10, 11, 12, 13, 14, 201, 300] S S_2 := AW.rf.tr (aw_5.mono (by decide) (by decide))
  have kk_6 : kK S_2 15 = 0 := (aw_5.2.1 15 (lt35 (by decide)) (by decide)).2.trans h15
  have kk_7 : kK S_2 19 = 0 := (aw_5.2.1 19 (lt35 (by decide)) (by decide)).2.trans h19
  have kk_8 : kK S_2 20 = 0 := (aw_5.2.1 20 (lt35 (by decide)) (by decide)).2.trans h20
  have kk_9 : kK S_2 21 = 0 := (aw_5.2.1 21 (lt35 (by decide)) (by decide)).2.trans h21
  have ii_10 : S_2.1 201 = nI sm0 := (aw_5.1 201 (by decide)).trans h201
  have ii_11 : S_2.1 8 = nI tm := (aw_5.1 8 (by decide)).trans h8
  have tj_12 : TJ S_2 N := TJ.aw hT aw_5 (by decide)
  obtain ⟨⟨fg_13, fg_13s⟩, fg_1312, fg_1313, fg_1314⟩ := hw_3.2
  obtain ⟨fg_13kt, fg_13kq⟩ := kt_start fg_13 fg_13s (z0_zS n9)
  have fg_13m := hm0.aw aw_5 (by decide)
  have fg_13e := hE.aw aw_5 (by decide)
  have fg_13o := hO.aw aw_5 (by decide)
  have fg_1323 := (aw_5.2.1 23 (lt35 (by decide)) (by decide)).2.trans hk2.1
  have fg_1324 := (aw_5.2.1 24 (lt35 (by decide)) (by decide)).2.trans hk2.2
  have fg_138 := (aw_5.1 8 (by decide)).trans h8
  have fg_13so : SO S_2 w00 := SO.aw hso aw_5 (by decide)
  refine lv_aload_n hx hb dX5_typeProgram_4 rfl (lv_at hl 0 rfl) ?_
  refine lv_iload_n hx hb dX5_typeProgram_5 rfl (lv_at hl 1 rfl) ?_
  refine c_put4_11 (x := (nI n9)) hx hb htu hown hK hP hD hS (htu _ C_57) dX5_typeProgram_6 (fun H locs hP hD hS => ?_)
  have S_14h : HS S (cO S_2 11 (nI n9)) := hh
  have S_14c : CL (cO S_2 11 (nI n9)) := hC
  have S_14p : PT S ≤ PT (cO S_2 11 (nI n9)) := hpp
  refine c_eq (S1 := S_2) (S2 := cO S_2 11 (nI n9)) rfl ?_
  have S_14w : AW [6, 7, 8, 9, 16, 14, 10, 11, 12, 13, 17, 18, 23, 24, 25, 26, 35, 19, 20, 21, 22] [8, 9, 10, 11, 12, 13, 14, 201, 300] S (cO S_2 11 (nI n9)) := (AW.o aw_5t (by decide))
  have hh := S_14h
  have hC := S_14c
  clear hpp
  have hpp := S_14p
  clear S_14p
  have tj_15 : TJ (cO S_2 11 (nI n9)) N := tj_12
  have ty_16 : TY (cO S_2 11 (nI n9)) 2 0 0 0 0 0 := fg_13
  refine lv_aload_n hx hb dX5_typeProgram_9 rfl (lv_at hl 0 rfl) ?_
  refine lv_iload_n hx hb dX5_typeProgram_10 rfl (lv_at hl 1 rfl) ?_
  refine lv_iconst (v := 0) hx hb dX5_typeProgram_11 (by decide) ?_
  refine lv_iconst (v := 1) hx hb dX5_typeProgram_12 (by decide) ?_
  have us_17t : TY (cO S_2 11 (nI n9)) 2 0 0 0 0 0 := fg_13
  have us_17 : US (cO S_2 11 (nI n9)) 2 0 0 0 0 0 := ⟨us_17t, ((cO_n (show 12 ≠ 11 by decide)).trans fg_1312), Nat.le_refl _, fun j hj => absurd hj (Nat.not_lt_zero _)⟩
  have us_17q : KQ (cO S_2 11 (nI n9)) (zS n9) := KQ.aw fg_13kq (rs := []) (is := [11]) (AW.o AW.rf (by decide)) (by decide) rfl rfl
  have us_178 : (cO S_2 11 (nI n9)).1 8 = nI tm := (cO_n (by decide)).trans fg_138
  have us_1713 : (cO S_2 11 (nI n9)).1 13 = -9 := ((cO_n (show 13 ≠ 11 by decide)).trans fg_1313)
  have hC0 := hC
  refine c_ci (c_runV (As := [.int (nI n9), .int 0, .int 1]) (rest := []) (q0 := 4) (ci := 5) ⟨hx, hb, hml, hown, htu⟩ ((x_typed_all 60) l G (cO S_2 11 (nI n9)) 2 0 0 0 0 0 N 1 0 tr mk rk n9 ((fun _ => False)) ((zS n9)) n9 tm hC us_17 ((by decide)) kk_6 tj_15 ((show 1 + 60 = 61 by decide)) ((by decide)) ((by decide)) fg_13e fg_13o hrk hn hn cO_s ((cv_top (fun _ => False) tr n9)) fg_13kt us_17q fg_13m us_178 ((Nat.le_trans htm (Nat.le_add_right _ _))) rfl rfl us_1713 (⟨fg_1323, fg_1324⟩) ((fun q hq => absurd hq id)) H) (cwV 3 htu hU_X5_77 rfl rfl rfl (by decide +kernel) ⟨show (2 * 60 + 140) + 1 ≤ 300 by omega, show 8 + (5 + 11) + (60 * 60 + 6500) ≤ 11000 by omega⟩) hP hK hD hC hpp cw_4 rfl rfl hl.1 rfl (lv_room (Nat.le_of_ble_eq_true rfl)) dX5_typeProgram_13) hS hD hh hpp (fun r_18 S_19 H locs hw_20 hP hD hS hC hh hs_21 hpq => ?_)
  clear hpp
  have hpp := hpq
  clear hpq
  try dsimp only at hw_20
  have aw_22 : AW [6, 7, 8, 9, 16, 14, 10, 11, 12, 13, 17, 18, 23, 24, 25, 26, 35] [8, 9, 10, 12, 13] (cO S_2 11 (nI n9)) S_19 := hw_20.1
  have aw_22t : AW [6, 7, 8, 9, 16, 14, 10, 11, 12, 13, 17, 18, 23, 24, 25, 26, 35, 19, 20, 21, 22] [8, 9, 10, 11, 12, 13, 14, 201, 300] S S_19 := S_14w.tr (aw_22.mono (by decide) (by decide))
  have kk_23 : kK S_19 15 = 0 := (aw_22.2.1 15 (lt35 (by decide)) (by decide)).2.trans kk_6
  have kk_24 : kK S_19 19 = 0 := (aw_22.2.1 19 (lt35 (by decide)) (by decide)).2.trans kk_7
  have kk_25 : kK S_19 20 = 0 := (aw_22.2.1 20 (lt35 (by decide)) (by decide)).2.trans kk_8
  have kk_26 : kK S_19 21 = 0 := (aw_22.2.1 21 (lt35 (by decide)) (by decide)).2.trans kk_9
  have ii_27 : S_19.1 201 = nI sm0 := (aw_22.1 201 (by decide)).trans ((cO_n (show 201 ≠ 11 by decide)).trans ii_10)
  have ii_28 : S_19.1 14 = (-4) := (aw_22.1 14 (by decide)).trans ((cO_n (show 14 ≠ 11 by decide)).trans fg_1314)
  have ii_29 : S_19.1 11 = nI n9 := (aw_22.1 11 (by decide)).trans cO_s
  have tj_30 : TJ S_19 N := TJ.aw tj_15 aw_22 (by decide)
  obtain ⟨tp_31A, tp_31E⟩ := hw_20.2
  clear hw_20
  obtain ⟨tp_31T, tp_31V, tp_31X, tp_31Y, tp_31Z, tp_31q, tp_31, -⟩ := tp_31A
  have tp_31t := tp_31.1
  obtain ⟨tp_31R, tp_31e⟩ : ∃ R, (ty tr n9 60 (zS n9) n9 0) = R := ⟨_, rfl⟩
  rw [tp_31e] at tp_31E
  obtain ⟨⟨tp_31t9, tp_31gs, tp_31yc⟩, tp_31g, tp_31b⟩ := tp_31E
  have tp_31s0 : stp (zS n9) = 0 := rfl
  have tp_31so : SO S_19 w00 := SO.aw (S := (cO S_2 11 (nI n9))) fg_13so aw_22 (by decide)
  rcases Nat.eq_zero_or_pos (sto tp_31R.1) with tp_31z | tp_31z
  · skip
    obtain ⟨tp_31v, tp_31x, tp_3112, tp_3113⟩ := tp_31g tp_31z
    subst tp_31v
    have tp_316 := tp_31yc.1.1.2.2.2.2.2.2.2.1
    refine lv_istore_n (lv' := [(2, .int (nI tp_31R.2)), (0, .ref (ga G 4)), (1, .int (nI n9))]) hx hb dX5_typeProgram_16 rfl hl (by decide) rfl (fun ls hl => ?_)
    refine lv_aload_n hx hb dX5_typeProgram_17 rfl (lv_at hl 1 rfl) ?_
    refine lv_iload_n hx hb dX5_typeProgram_18 rfl (lv_at hl 0 rfl) ?_
    refine lv_if_ge (tgt := 26) hx hb dX5_typeProgram_19 (by decide) (fun c_32 => ?_) (fun c_32 => absurd (Int32.not_lt.mp (nI_n0 (by omega))) c_32)
    refine lv_iconst (v := 0) hx hb dX5_typeProgram_26 (by decide) ?_
    refine c_put4_14 (x := 0) hx hb htu hown hK hP hD hS (htu _ C_59) dX5_typeProgram_27 (fun H locs hP hD hS => ?_)
    have S_33h : HS S (cO S_19 14 0) := hh
    have S_33c : CL (cO S_19 14 0) := hC
    have S_33p : PT S ≤ PT (cO S_19 14 0) := hpp
    refine c_eq (S1 := S_19) (S2 := cO S_19 14 0) rfl ?_
    have S_33w : AW [6, 7, 8, 9, 16, 14, 10, 11, 12, 13, 17, 18, 23, 24, 25, 26, 35, 19, 20, 21, 22] [8, 9, 10, 11, 12, 13, 14, 201, 300] S (cO S_19 14 0) := (AW.o aw_22t (by decide))
    have hh := S_33h
    have hC := S_33c
    clear hpp
    have hpp := S_33p
    clear S_33p
    have tj_34 : TJ (cO S_19 14 0) N := tj_30
    have ty_35 : TY (cO S_19 14 0) tp_31T tp_31V tp_31V tp_31X tp_31Y tp_31Z := tp_31t
    have tp_31kl : KL (cO S_19 14 0) tp_31R.1 tp_31t9 := ⟨tp_31yc.1, tp_31yc.2.2.1, (cO_n (by decide)).trans tp_31yc.2.2.2.1, tp_31yc.2.2.2.2.2.2.1, (cO_n (by decide)).trans (tp_3113.trans (wc_0 tp_31z).symm)⟩
    have tp_31le : tp_31t9 ≤ tm + 1500 + cntT tr 60 n9 := by have := tp_31yc.2.2.2.2.1; omega
    have tp_3114 : (cO S_19 14 0).1 14 = sc (sto tp_31R.1) := cO_s.trans (by rw [tp_31z]; rfl)
    refine lv_aload_n hx hb dX5_typeProgram_30 rfl (lv_at hl 1 rfl) ?_
    refine va_get (D := gD G) (ci := 5) (v := .int 0) (C := RX5) (T := TX5) (N := 15) hx hb htu cu_in5 hown hK hP 4 cw_4 rfl 14 (by decide) (htu _ C_59) (fun _ h9 => h9) (m_v cO_s) dX5_typeProgram_31 ?_
    refine lv_if_eq (tgt := 42) hx hb dX5_typeProgram_34 (by decide) (fun c_36 => ?_) (fun c_36 => absurd (by decide) c_36)
    refine lv_aload_n hx hb dX5_typeProgram_42 rfl (lv_at hl 1 rfl) ?_
    refine va_get (D := gD G) (ci := 5) (v := .ref (ga G 3)) (C := RX5) (T := TX5) (N := 15) hx hb htu cu_in5 hown hK hP 4 cw_4 rfl 2 (by decide) (htu _ C_49) (fun _ h9 => h9) rfl dX5_typeProgram_43 ?_
    refine lv_iload_n hx hb dX5_typeProgram_46 rfl (lv_at hl 0 rfl) ?_
    refine lv_iconst (v := 0) hx hb dX5_typeProgram_47 (by decide) ?_
    refine lv_aload_n hx hb dX5_typeProgram_48 rfl (lv_at hl 1 rfl) ?_
    refine va_get (D := gD G) (ci := 5) (v := .ref (ga G 7)) (C := RX5) (T := TX5) (N := 15) hx hb htu cu_in5 hown hK hP 4 cw_4 rfl 3 (by decide) (htu _ C_51) (fun _ h9 => h9) rfl dX5_typeProgram_49 ?_
    have hC0 := hC
    refine c_cv (c_runV (As := [.int (nI tp_31R.2), .int 0, .ref (ga G 7)]) (rest := []) (q0 := 3) (ci := 2) ⟨hx, hb, hml, hown, htu⟩ (xl_tell_7 l G (cO S_19 14 0) tp_31T tp_31V tp_31V tp_31X tp_31Y tp_31Z tp_31R.1 0 tp_31R.2 hC ty_35 ((Nat.le_refl _)) tp_31kl.1 kk_24 kk_25 kk_26 ((show SO (cO S_19 14 0) w00 from tp_31so)) tp_31x ((by decide)) H) (cwV 3 htu hU_X5_81 rfl rfl rfl (by decide +kernel) ⟨show 5 + 1 ≤ 300 by omega, show 8 + (5 + 11) + 151 ≤ 11000 by omega⟩) hP hK hD hC hpp cw_3 rfl rfl hl.1 rfl (lv_room (Nat.le_of_ble_eq_true rfl)) dX5_typeProgram_52) hS hD hh hpp (fun S_38 H locs hw_39 hP hD hS hC hh hs_40 hpq => ?_)
    clear hpp
    have hpp := hpq
    clear hpq
    try dsimp only at hw_39
    have aw_41 : AW [19, 20, 21, 22] [201, 300] (cO S_19 14 0) S_38 := hw_39.1
    have aw_41t : AW [6, 7, 8, 9, 16, 14, 10, 11, 12, 13, 17, 18, 23, 24, 25, 26, 35, 19, 20, 21, 22] [8, 9, 10, 11, 12, 13, 14, 201, 300] S S_38 := S_33w.tr (aw_41.mono (by decide) (by decide))
    have kk_42 : kK S_38 15 = 0 := (aw_41.2.1 15 (lt35 (by decide)) (by decide)).2.trans kk_23
    have ii_43 : S_38.1 14 = 0 := (aw_41.1 14 (by decide)).trans cO_s
    have ii_44 : S_38.1 11 = nI n9 := (aw_41.1 11 (by decide)).trans ((cO_n (show 11 ≠ 14 by decide)).trans ii_29)
    have ii_45 : S_38.1 13 = (-9) := (aw_41.1 13 (by decide)).trans ((cO_n (show 13 ≠ 14 by decide)).trans tp_3113)
    have tj_46 : TJ S_38 N := TJ.aw tj_34 aw_41 (by decide)
    have ty_47 := TY.aw ty_35 aw_41 (by decide)
    have tl_48 := hw_39.2
    have tp_31kl2 := tp_31kl.aw aw_41 (by decide) (by decide)
    have tp_31142 := (aw_41.1 14 (by decide)).trans tp_3114
    refine lv_aload_n hx hb dX5_typeProgram_55 rfl (lv_at hl 1 rfl) ?_
    refine va_get (D := gD G) (ci := 5) (v := .ref (ga G 2)) (C := RX5) (T := TX5) (N := 15) hx hb htu cu_in5 hown hK hP 4 cw_4 rfl 1 (by decide) (htu _ C_45) (fun _ h9 => h9) rfl dX5_typeProgram_56 ?_
    have hC0 := hC
    refine c_ci (c_runV (As := []) (rest := []) (q0 := 2) (ci := 4) ⟨hx, hb, hml, hown, htu⟩ (y_variableCount l G S_38  hC  H) (cwV 0 htu hU_X5_85 rfl rfl rfl (by decide +kernel) ⟨show 0 + 1 ≤ 300 by omega, show 8 + (1 + 11) + 0 ≤ 11000 by omega⟩) hP hK hD hC hpp cw_2 rfl rfl hl.1 rfl (lv_room (Nat.le_of_ble_eq_true rfl)) dX5_typeProgram_59) hS hD hh hpp (fun r_49 S_50 H locs hw_51 hP hD hS hC hh hs_52 hpq => ?_)
    clear hpp
    have hpp := hpq
    clear hpq
    obtain ⟨-, hu9, hw_51⟩ := hw_51
    have hu9 := hu9.symm
    subst hu9
    obtain rfl : r_49 = nI (nV tp_31R.1) := hw_51.trans (congrArg nI tp_31kl2.1.1.2.2.2.2.1)
    exact c_iret (v := nI (nV tp_31R.1)) hx hb hr hK hP hD hS hC hh hpp ⟨aw_41t, ⟨⟨⟨_, _, _, _, _, ty_47⟩, ⟨kk_42, tl_48.1.1, tl_48.1.2.1, tl_48.1.2.2⟩, _, tl_48.2.1.1, TX9.len⟩, by rw [tp_31e]; exact ⟨⟨tp_31t9, tp_31kl2, tp_31le⟩, (by unfold tans; rw [if_pos tp_31z]), tp_31142, tl_48.2.2, fun _ => ⟨tp_31x, tl_48.2.1⟩⟩⟩⟩ dX5_typeProgram_62 hlocks
  · skip
    have tp_31zz : sto tp_31R.1 ≠ 0 := Nat.ne_of_gt tp_31z
    obtain ⟨tp_31v, tp_31p, tp_31p1, tp_31p2, tp_31p3⟩ := tp_31b tp_31zz
    have tp_31ng : r_18 < 0 := by rw [tp_31v]; exact sc_neg tp_31zz
    refine lv_istore_n (lv' := [(2, .int r_18), (0, .ref (ga G 4)), (1, .int (nI n9))]) hx hb dX5_typeProgram_16 rfl hl (by decide) rfl (fun ls hl => ?_)
    refine lv_aload_n hx hb dX5_typeProgram_17 rfl (lv_at hl 1 rfl) ?_
    refine lv_iload_n hx hb dX5_typeProgram_18 rfl (lv_at hl 0 rfl) ?_
    refine lv_if_ge (tgt := 26) hx hb dX5_typeProgram_19 (by decide) (fun c_53 => absurd c_53 (Int32.not_le.mpr tp_31ng)) (fun c_53 => ?_)
    refine lv_iload_n hx hb dX5_typeProgram_22 rfl (lv_at hl 0 rfl) ?_
    refine lv_goto (tgt := 27) hx hb dX5_typeProgram_23 (by decide) ?_
    refine c_put4_14 (x := r_18) hx hb htu hown hK hP hD hS (htu _ C_59) dX5_typeProgram_27 (fun H locs hP hD hS => ?_)
    have S_54h : HS S (cO S_19 14 r_18) := hh
    have S_54c : CL (cO S_19 14 r_18) := hC
    have S_54p : PT S ≤ PT (cO S_19 14 r_18) := hpp
    refine c_eq (S1 := S_19) (S2 := cO S_19 14 r_18) rfl ?_
    have S_54w : AW [6, 7, 8, 9, 16, 14, 10, 11, 12, 13, 17, 18, 23, 24, 25, 26, 35, 19, 20, 21, 22] [8, 9, 10, 11, 12, 13, 14, 201, 300] S (cO S_19 14 r_18) := (AW.o aw_22t (by decide))
    have hh := S_54h
    have hC := S_54c
    clear hpp
    have hpp := S_54p
    clear S_54p
    have tj_55 : TJ (cO S_19 14 r_18) N := tj_30
    have ty_56 : TY (cO S_19 14 r_18) tp_31T tp_31V tp_31V tp_31X tp_31Y tp_31Z := tp_31t
    have tp_31kl : KL (cO S_19 14 r_18) tp_31R.1 tp_31t9 := ⟨tp_31yc.1, tp_31yc.2.2.1, (cO_n (by decide)).trans tp_31yc.2.2.2.1, tp_31yc.2.2.2.2.2.2.1, (cO_n (by decide)).trans (tp_31p2.trans (wc_p tp_31zz tp_31p3).symm)⟩
    have tp_31le : tp_31t9 ≤ tm + 1500 + cntT tr 60 n9 := by have := tp_31yc.2.2.2.2.1; omega
    have tp_3114 : (cO S_19 14 r_18).1 14 = sc (sto tp_31R.1) := cO_s.trans tp_31v
    refine lv_aload_n hx hb dX5_typeProgram_30 rfl (lv_at hl 1 rfl) ?_
    refine va_get (D := gD G) (ci := 5) (v := .int r_18) (C := RX5) (T := TX5) (N := 15) hx hb htu cu_in5 hown hK hP 4 cw_4 rfl 14 (by decide) (htu _ C_59) (fun _ h9 => h9) (m_v cO_s) dX5_typeProgram_31 ?_
    refine lv_if_eq (tgt := 42) hx hb dX5_typeProgram_34 (by decide) (fun c_57 => absurd c_57 (fun h => by rw [h] at tp_31ng; exact absurd tp_31ng (by decide))) (fun c_57 => ?_)
    refine lv_aload_n hx hb dX5_typeProgram_37 rfl (lv_at hl 1 rfl) ?_
    refine va_get (D := gD G) (ci := 5) (v := .int r_18) (C := RX5) (T := TX5) (N := 15) hx hb htu cu_in5 hown hK hP 4 cw_4 rfl 14 (by decide) (htu _ C_59) (fun _ h9 => h9) (m_v cO_s) dX5_typeProgram_38 ?_
    exact c_iret (v := r_18) hx hb hr hK hP hD hS hC hh hpp ⟨S_54w, ⟨⟨⟨_, _, _, _, _, ty_56⟩, ⟨kk_23, kk_24, kk_25, kk_26⟩, _, ((cO_n (show 201 ≠ 14 by decide)).trans ii_27), hsm⟩, by rw [tp_31e]; exact ⟨⟨tp_31t9, tp_31kl, tp_31le⟩, (tp_31v.trans (by unfold tans; rw [if_neg tp_31zz])), tp_3114, tp_31so, fun h => absurd h tp_31zz⟩⟩⟩ dX5_typeProgram_41 hlocks

set_option maxHeartbeats 4000000 in
set_option maxRecDepth 100000 in
/-- type -/
theorem xz_type (l : Launch) (G : cG) (S : cS) (N : Nat) (tr : aM) (mk : Nat → Int32) (rk : Nat → Nat) (tm : Nat) (x : Int32) (hC : CL S) (hI : CI S N) (hE : TC S tr mk N) (hO : TO S tr N) (hrk : RKs tr rk N) (h8 : S.1 8 = nI tm) (hm0 : KM0 S tm) (hcn : ∀ n, n < N → tm + 1501 + cntT tr 60 n ≤ 2 ^ 29) (hk2 : kK S 23 = 120 ∧ kK S 24 = 120) (hso : SO S w00) (Hs : Heap) : Met l yX7_type (wC yX7_type cX7_type 2 (some .int)) (cRm S 310 12000) (cPc G S Hs [.ref (ga G 0), .int x]) (cQi G S Hs (fun v u => AW [6, 7, 8, 9, 16, 14, 10, 11, 12, 13, 17, 18, 23, 24, 25, 26, 35, 19, 20, 21, 22] [8, 9, 10, 11, 12, 13, 14, 201, 300] S u ∧ ((v = -1 ∧ u = S ∧ ¬ ∃ j, j < N ∧ x = nI j) ∨ ∃ n9 tm', n9 < N ∧ x = nI n9 ∧ CI u N ∧ KL u (ty tr n9 60 (zS n9) n9 0).1 tm' ∧ tm' ≤ tm + 1500 + cntT tr 60 n9 ∧ v = tans (ty tr n9 60 (zS n9) n9 0) ∧ u.1 14 = sc (sto (ty tr n9 60 (zS n9) n9 0).1) ∧ SO u w00 ∧ (sto (ty tr n9 60 (zS n9) n9 0).1 = 0 → (ty tr n9 60 (zS n9) n9 0).2 < nT (ty tr n9 60 (zS n9) n9 0).1 ∧ SG u 401 (TX9 (ty tr n9 60 (zS n9) n9 0).1 (ty tr n9 60 (zS n9) n9 0).2 0))))) (CC - PT S) (12 * (CC - PT S)) (cA G S Hs.size) := by
  refine Met.ofW (cc := cX7_type) (maxL := 2) (ret := (some .int)) (by decide) rfl ?_
  intro p e s m args below meth c s₁ B hml hv
  obtain ⟨rfl, hsz, hP, hK, hD0, -⟩ := hv
  have hx := B.exec
  have hb := B.bytes
  have hr := B.returns
  have htu : ∀ w ∈ CU, w.before _ s = true := fun w h => atoms_spec (ws := (wC yX7_type cX7_type 2 (some .int))) B.pre w (List.mem_cons_of_mem _ h)
  have hown : s.vm.findClass RX7 = some m.cls := findClass_of_methodNamed B.named
  have hlocks := B.notSynchronized
  subst hsz
  have hD : cD (cA G S s.heap.size) G S := cD_self hD0
  have hl := lv_entry ([.ref (ga G 0), .int x]) (n := 2) (Nat.le_of_ble_eq_true rfl)
  rw [lg_entry_eq]
  generalize (lg_sl ([.ref (ga G 0), .int x]) ++ List.replicate (2 - (lg_sl ([.ref (ga G 0), .int x])).length) Slot.unset).toArray = ls at hl ⊢
  have hl : lv_has ls 2 [(0, .ref (ga G 0)), (1, .int x)] := hl
  obtain ⟨H, hHe⟩ : ∃ H : Heap, H = s.heap := ⟨_, rfl⟩
  rw [← hHe] at hP
  have hS : va_S (cA G S s.heap.size) s.heap H [] := by rw [hHe]; exact va_S.rf
  have hh : HS S S := HS.rf
  have hpp : PT S ≤ PT S := Nat.le_refl _
  have hB9 := hC.1
  refine W.heq hHe ?_
  refine c_ent (S := S) ?_
  obtain ⟨hT, ⟨T, V, X, Y, Z, hY⟩, ⟨h15, h19, h20, h21⟩, ⟨a0, h200, a0l⟩, ⟨a1, h201, a1l⟩, ⟨a2, h202, a2l⟩⟩ := id hI
  obtain ⟨tT, tV, tB, tX⟩ := id hY.2.1
  have hN := hT.1.1
  refine lv_aload_n hx hb dX7_type_0 rfl (lv_at hl 0 rfl) ?_
  refine va_get (D := gD G) (ci := 7) (v := .ref (ga G 1)) (C := RX7) (T := TX7) (N := 4) hx hb htu cu_in7 hown hK hP 0 cw_0 rfl 0 (by decide) (htu _ C_7) (fun _ h9 => h9) rfl dX7_type_1 ?_
  refine lv_iload_n hx hb dX7_type_4 rfl (lv_at hl 1 rfl) ?_
  have hC0 := hC
  refine c_ci (c_runV (As := [.int x]) (rest := []) (q0 := 1) (ci := 3) ⟨hx, hb, hml, hown, htu⟩ (tt_isNode l G S N x hC hT.1 H) (cwV 1 htu hU_X7_67 rfl rfl rfl (by decide +kernel) ⟨show 1 + 1 ≤ 310 by omega, show 8 + (2 + 11) + 21 ≤ 12000 by omega⟩) hP hK hD hC hpp cw_1 rfl rfl hl.1 rfl (lv_room (Nat.le_of_ble_eq_true rfl)) dX7_type_5) hS hD hh hpp (fun r_1 S_2 H locs hw_3 hP hD hS hC hh hs_4 hpq => ?_)
  clear hpp
  have hpp := hpq
  clear hpq
  obtain ⟨-, hu9, hw_3⟩ := hw_3
  have hu9 := hu9.symm
  subst hu9
  refine lv_if_eq (tgt := 22) hx hb dX7_type_8 (by decide) (fun c_5 => ?_) (fun c_5 => ?_)
  · skip
    refine lv_iconst (v := (-1)) hx hb dX7_type_22 (by decide) ?_
    exact c_iret (v := (-1)) hx hb hr hK hP hD hS hC hh hpp ⟨AW.rf, (Or.inl ⟨rfl, rfl, fun ⟨j, hj, e⟩ => rholds_no ((hw_3).symm.trans c_5) (show N < 2 ^ 31 by omega) hj e⟩)⟩ dX7_type_23 hlocks
  · skip
    obtain ⟨n9, hn9, rfl⟩ := rholds_of (fun h => c_5 (hw_3.trans h)) (show N < 2 ^ 31 by omega)
    refine lv_aload_n hx hb dX7_type_11 rfl (lv_at hl 0 rfl) ?_
    refine va_get (D := gD G) (ci := 7) (v := .ref (ga G 4)) (C := RX7) (T := TX7) (N := 4) hx hb htu cu_in7 hown hK hP 0 cw_0 rfl 1 (by decide) (htu _ C_11) (fun _ h9 => h9) rfl dX7_type_12 ?_
    refine lv_iload_n hx hb dX7_type_15 rfl (lv_at hl 1 rfl) ?_
    have hC0 := hC
    refine c_ci (c_runV (As := [.int (nI n9)]) (rest := []) (q0 := 4) (ci := 5) ⟨hx, hb, hml, hown, htu⟩ (xz_typeProgram l G S N a1 tr mk rk n9 tm hC hT h15 h19 h20 h21 h201 a1l hE hO hrk hn9 h8 hm0 ((hcn n9 hn9)) hk2 hso H) (cwV 1 htu hU_X7_108 rfl rfl rfl (by decide +kernel) ⟨show 300 + 1 ≤ 310 by omega, show 8 + (3 + 11) + 11000 ≤ 12000 by omega⟩) hP hK hD hC hpp cw_4 rfl rfl hl.1 rfl (lv_room (Nat.le_of_ble_eq_true rfl)) dX7_type_16) hS hD hh hpp (fun r_6 S_7 H locs hw_8 hP hD hS hC hh hs_9 hpq => ?_)
    clear hpp
    have hpp := hpq
    clear hpq
    try dsimp only at hw_8
    have aw_10 : AW [6, 7, 8, 9, 16, 14, 10, 11, 12, 13, 17, 18, 23, 24, 25, 26, 35, 19, 20, 21, 22] [8, 9, 10, 11, 12, 13, 14, 201, 300] S S_7 := hw_8.1
    have aw_10t : AW [6, 7, 8, 9, 16, 14, 10, 11, 12, 13, 17, 18, 23, 24, 25, 26, 35, 19, 20, 21, 22] [8, 9, 10, 11, 12, 13, 14, 201, 300] S S_7 := AW.rf.tr (aw_10.mono (by decide) (by decide))
    have kk_11 : kK S_7 15 = 0 := (aw_10.2.1 15 (lt35 (by decide)) (by decide)).2.trans h15
    have ii_12 : S_7.1 200 = nI a0 := (aw_10.1 200 (by decide)).trans h200
    have ii_13 : S_7.1 202 = nI a2 := (aw_10.1 202 (by decide)).trans h202
    have tj_14 : TJ S_7 N := TJ.aw hT aw_10 (by decide)
    obtain ⟨⟨⟨tp_15T, tp_15V, tp_15X, tp_15Y, tp_15Z, tp_15y⟩, tp_15k, tp_15m, tp_15s, tp_15l⟩, ⟨tp_15t, tp_15kl, tp_15le⟩, tp_15v, tp_1514, tp_15so, tp_15sg⟩ := hw_8.2
    refine lv_goto (tgt := 23) hx hb dX7_type_19 (by decide) ?_
    exact c_iret (v := r_6) hx hb hr hK hP hD hS hC hh hpp ⟨aw_10t, (Or.inr ⟨n9, tp_15t, hn9, rfl, ⟨tj_14, ⟨_, _, _, _, _, tp_15y⟩, ⟨tp_15k.1, tp_15k.2.1, tp_15k.2.2.1, tp_15k.2.2.2⟩, ⟨_, ii_12, a0l⟩, ⟨_, tp_15s, tp_15l⟩, ⟨_, ii_13, a2l⟩⟩, tp_15kl, tp_15le, tp_15v, tp_1514, tp_15so, tp_15sg⟩)⟩ dX7_type_23 hlocks

set_option maxHeartbeats 4000000 in
set_option maxRecDepth 100000 in
/-- bound -/
theorem xz_bound (l : Launch) (G : cG) (S : cS) (N : Nat) (z : aS) (x : Int32) (ab : Int32) (iv : Int32) (y : Int32) (hC : CL S) (hI : CI S N) (hz : KT S z) (hso : SO S w00) (Hs : Heap) : Met l yX7_bound (wC yX7_bound cX7_bound 8 (some .int)) (cRm S 6 175) (cPc G S Hs [.ref (ga G 0), .int x, .int ab, .int iv, .int y]) (cQi G S Hs (fun v u => AW [19, 20, 21, 22] [200, 300] S u ∧ (CI u N ∧ SO u w00 ∧ ((v = -1 ∧ ¬ ∃ q, q < nV z ∧ x = nI q) ∨ ∃ q wy, q < nV z ∧ x = nI q ∧ wy = (if ab = 0 then 0 else 1) ∧ ((v = -9 ∧ ¬ ∃ j, j < (row z wy (z.1 6 q)).length ∧ iv = nI j) ∨ ∃ j, j < (row z wy (z.1 6 q)).length ∧ iv = nI j ∧ v = sgat (TX9 z ((row z wy (z.1 6 q)).getD j 0) wy) y))))) (CC - PT S) (12 * (CC - PT S)) (cA G S Hs.size) := by
  refine Met.ofW (cc := cX7_bound) (maxL := 8) (ret := (some .int)) (by decide) rfl ?_
  intro p e s m args below meth c s₁ B hml hv
  obtain ⟨rfl, hsz, hP, hK, hD0, -⟩ := hv
  have hx := B.exec
  have hb := B.bytes
  have hr := B.returns
  have htu : ∀ w ∈ CU, w.before _ s = true := fun w h => atoms_spec (ws := (wC yX7_bound cX7_bound 8 (some .int))) B.pre w (List.mem_cons_of_mem _ h)
  have hown : s.vm.findClass RX7 = some m.cls := findClass_of_methodNamed B.named
  have hlocks := B.notSynchronized
  subst hsz
  have hD : cD (cA G S s.heap.size) G S := cD_self hD0
  have hl := lv_entry ([.ref (ga G 0), .int x, .int ab, .int iv, .int y]) (n := 8) (Nat.le_of_ble_eq_true rfl)
  rw [lg_entry_eq]
  generalize (lg_sl ([.ref (ga G 0), .int x, .int ab, .int iv, .int y]) ++ List.replicate (8 - (lg_sl ([.ref (ga G 0), .int x, .int ab, .int iv, .int y])).length) Slot.unset).toArray = ls at hl ⊢
  have hl : lv_has ls 8 [(0, .ref (ga G 0)), (1, .int x), (2, .int ab), (3, .int iv), (4, .int y)] := hl
  obtain ⟨H, hHe⟩ : ∃ H : Heap, H = s.heap := ⟨_, rfl⟩
  rw [← hHe] at hP
  have hS : va_S (cA G S s.heap.size) s.heap H [] := by rw [hHe]; exact va_S.rf
  have hh : HS S S := HS.rf
  have hpp : PT S ≤ PT S := Nat.le_refl _
  have hB9 := hC.1
  refine W.heq hHe ?_
  refine c_ent (S := S) ?_
  obtain ⟨hT, ⟨T, V, X, Y, Z, hY⟩, ⟨h15, h19, h20, h21⟩, ⟨a0, h200, a0l⟩, ⟨a1, h201, a1l⟩, ⟨a2, h202, a2l⟩⟩ := id hI
  obtain ⟨tT, tV, tB, tX⟩ := id hY.2.1
  have hN := hT.1.1
  refine lv_aload_n hx hb dX7_bound_0 rfl (lv_at hl 0 rfl) ?_
  refine va_get (D := gD G) (ci := 7) (v := .ref (ga G 4)) (C := RX7) (T := TX7) (N := 4) hx hb htu cu_in7 hown hK hP 0 cw_0 rfl 1 (by decide) (htu _ C_11) (fun _ h9 => h9) rfl dX7_bound_1 ?_
  refine va_get (D := gD G) (ci := 5) (v := .ref (ga G 2)) (C := RX5) (T := TX5) (N := 15) hx hb htu cu_in5 hown hK hP 4 cw_4 rfl 1 (by decide) (htu _ C_520) (fun _ h9 => h9) rfl dX7_bound_4 ?_
  refine lv_iload_n hx hb dX7_bound_7 rfl (lv_at hl 1 rfl) ?_
  have hC0 := hC
  refine c_ci (c_runV (As := [.int x]) (rest := []) (q0 := 2) (ci := 4) ⟨hx, hb, hml, hown, htu⟩ (y_ofVariable l G S x hC  H) (cwV 1 htu hU_X7_131 rfl rfl rfl (by decide +kernel) ⟨Nat.le_of_ble_eq_true rfl, Nat.le_of_ble_eq_true rfl⟩) hP hK hD hC hpp cw_2 rfl rfl hl.1 rfl (lv_room (Nat.le_of_ble_eq_true rfl)) dX7_bound_8) hS hD hh hpp (fun r_1 S_2 H locs hw_3 hP hD hS hC hh hs_4 hpq => ?_)
  clear hpp
  have hpp := hpq
  clear hpq
  obtain ⟨-, hu9, hw_3⟩ := hw_3
  have hu9 := hu9.symm
  subst hu9
  rcases hz.vr x with ⟨vr1, vr2⟩ | ⟨j9, vr1, vr2, vr3, vr4, vr5, vr6⟩
  · skip
    obtain rfl : r_1 = -9 := hw_3.trans vr1
    refine lv_istore (lv' := [(5, .int ((-9))), (0, .ref (ga G 0)), (1, .int x), (2, .int ab), (3, .int iv), (4, .int y)]) hx hb dX7_bound_11 hl (by decide) rfl (fun ls hl => ?_)
    refine lv_iload hx hb dX7_bound_13 (lv_at hl 0 rfl) ?_
    refine lv_bipush (v := (-9)) hx hb dX7_bound_15 (by decide) ?_
    refine lv_icmp_ne (tgt := 22) hx hb dX7_bound_17 (by decide) (fun c_5 => absurd (by decide) c_5) (fun c_5 => ?_)
    refine lv_iconst (v := (-1)) hx hb dX7_bound_20 (by decide) ?_
    exact c_iret (v := (-1)) hx hb hr hK hP hD hS hC hh hpp ⟨AW.rf, ⟨hI, hso, Or.inl ⟨rfl, vr2⟩⟩⟩ dX7_bound_21 hlocks
  · skip
    have vn6 := hz.1.2.2.2.2.2.2.2.1
    have vn5 := hz.1.2.2.2.2.2.2.2.2.1
    obtain rfl : r_1 = nI (z.1 6 j9) := hw_3.trans vr3
    refine lv_istore (lv' := [(5, .int (nI (z.1 6 j9))), (0, .ref (ga G 0)), (1, .int x), (2, .int ab), (3, .int iv), (4, .int y)]) hx hb dX7_bound_11 hl (by decide) rfl (fun ls hl => ?_)
    refine lv_iload hx hb dX7_bound_13 (lv_at hl 0 rfl) ?_
    refine lv_bipush (v := (-9)) hx hb dX7_bound_15 (by decide) ?_
    refine lv_icmp_ne (tgt := 22) hx hb dX7_bound_17 (by decide) (fun c_6 => ?_) (fun c_6 => absurd c_6 (nI_neg (by decide) (by omega)))
    refine lv_iload_n hx hb dX7_bound_22 rfl (lv_at hl 3 rfl) ?_
    refine lv_if_eq (tgt := 30) hx hb dX7_bound_23 (by decide) (fun c_7 => ?_) (fun c_7 => ?_)
    · skip
      refine lv_iconst (v := 0) hx hb dX7_bound_30 (by decide) ?_
      refine lv_istore (lv' := [(6, .int 0), (5, .int (nI (z.1 6 j9))), (0, .ref (ga G 0)), (1, .int x), (2, .int ab), (3, .int iv), (4, .int y)]) hx hb dX7_bound_31 hl (by decide) rfl (fun ls hl => ?_)
      refine lv_aload_n hx hb dX7_bound_33 rfl (lv_at hl 2 rfl) ?_
      refine va_get (D := gD G) (ci := 7) (v := .ref (ga G 4)) (C := RX7) (T := TX7) (N := 4) hx hb htu cu_in7 hown hK hP 0 cw_0 rfl 1 (by decide) (htu _ C_11) (fun _ h9 => h9) rfl dX7_bound_34 ?_
      refine va_get (D := gD G) (ci := 5) (v := .ref (ga G 2)) (C := RX5) (T := TX5) (N := 15) hx hb htu cu_in5 hown hK hP 4 cw_4 rfl 1 (by decide) (htu _ C_520) (fun _ h9 => h9) rfl dX7_bound_37 ?_
      refine lv_iload hx hb dX7_bound_40 (lv_at hl 1 rfl) ?_
      refine lv_iload hx hb dX7_bound_42 (lv_at hl 0 rfl) ?_
      have hC0 := hC
      refine c_cr (c_runV (As := [.int (nI (z.1 6 j9)), .int 0]) (rest := []) (q0 := 2) (ci := 4) ⟨hx, hb, hml, hown, htu⟩ (y_boundsOf l G S T V V X Y Z (nI (z.1 6 j9)) 0 hC hY ((Nat.le_refl _)) ((by decide)) H) (cwV 2 htu hU_X7_139 rfl rfl rfl (by decide +kernel) ⟨Nat.le_of_ble_eq_true rfl, Nat.le_of_ble_eq_true rfl⟩) hP hK hD hC hpp cw_2 rfl rfl hl.1 rfl (lv_room (Nat.le_of_ble_eq_true rfl)) dX7_bound_44) hS hD hh hpp (fun r_8 S_9 H locs hw_10 hP hD hS hC hh hs_11 hpq => ?_)
      clear hpp
      have hpp := hpq
      clear hpq
      obtain ⟨-, hu9, hw_10⟩ := hw_10
      have hu9 := hu9.symm
      subst hu9
      obtain ⟨br_12r, br_12e, br_121⟩ := hw_10
      have br_12b := hY.2.1.2.2.1
      have br_12l : br_12r < 35 + kB S := bnd_lt br_121 br_12b (by decide)
      have br_12h : kH S br_12r = r_8 := br_12e.symm
      have br_12q : br_12r = 35 + (2 * one z (z.1 6 j9) + 0) := hz.bof vr4 vr5 br_121 (by omega) (by omega)
      have br_12k : kK S br_12r = (row z 0 (z.1 6 j9)).length := by rw [br_12q]; exact (hz.bn vr4 vr5 (by decide)).1
      have hlen := hz.rlen hC vr4 vr5 (show 0 < 2 by decide)
      refine lv_astore (lv' := [(7, .ref r_8), (6, .int 0), (5, .int (nI (z.1 6 j9))), (0, .ref (ga G 0)), (1, .int x), (2, .int ab), (3, .int iv), (4, .int y)]) hx hb dX7_bound_47 hl (by decide) rfl (fun ls hl => ?_)
      refine lv_aload hx hb dX7_bound_49 (lv_at hl 0 rfl) ?_
      refine lv_iload_n hx hb dX7_bound_51 rfl (lv_at hl 6 rfl) ?_
      have hC0 := hC
      refine c_ci (c_runV (As := [.int iv]) (rest := []) (q0 := (2 * br_12r + 13)) (ci := 0) ⟨hx, hb, hml, hown, htu⟩ (c_holdsA l G S br_12r br_12l hC r_8 br_12h iv H) (cwV 1 htu hU_X7_148 rfl rfl rfl (by decide +kernel) ⟨Nat.le_of_ble_eq_true rfl, Nat.le_of_ble_eq_true rfl⟩) hP hK hD hC hpp (c_hd br_12h (cw_row br_12l)) rfl rfl hl.1 rfl (lv_room (Nat.le_of_ble_eq_true rfl)) dX7_bound_52) hS hD hh hpp (fun r_13 S_14 H locs hw_15 hP hD hS hC hh hs_16 hpq => ?_)
      clear hpp
      have hpp := hpq
      clear hpq
      obtain ⟨hu9, hw_15⟩ := hw_15
      have hu9 := hu9.symm
      subst hu9
      refine lv_if_ne (tgt := 61) hx hb dX7_bound_55 (by decide) (fun c_17 => ?_) (fun c_17 => ?_)
      · skip
        obtain ⟨i9, hi9, rfl⟩ := rholds_of (fun h => c_17 (hw_15.trans h)) (Nat.lt_trans (kK_lt hC br_12l) (by decide))
        rw [br_12k] at hi9
        refine lv_aload_n hx hb dX7_bound_61 rfl (lv_at hl 3 rfl) ?_
        refine va_get (D := gD G) (ci := 7) (v := .ref (ga G 4)) (C := RX7) (T := TX7) (N := 4) hx hb htu cu_in7 hown hK hP 0 cw_0 rfl 1 (by decide) (htu _ C_11) (fun _ h9 => h9) rfl dX7_bound_62 ?_
        refine va_get (D := gD G) (ci := 5) (v := .ref (ga G 3)) (C := RX5) (T := TX5) (N := 15) hx hb htu cu_in5 hown hK hP 4 cw_4 rfl 2 (by decide) (htu _ C_529) (fun _ h9 => h9) rfl dX7_bound_65 ?_
        refine lv_aload hx hb dX7_bound_68 (lv_at hl 0 rfl) ?_
        refine lv_iload_n hx hb dX7_bound_70 rfl (lv_at hl 6 rfl) ?_
        have hC0 := hC
        refine c_ci (c_runV (As := [.int (nI i9)]) (rest := [.ref (ga G 3)]) (q0 := (2 * br_12r + 13)) (ci := 0) ⟨hx, hb, hml, hown, htu⟩ (c_getA l G S br_12r br_12l hC r_8 br_12h (nI i9) H) (cwV 1 htu hU_X7_155 rfl rfl rfl (by decide +kernel) ⟨Nat.le_of_ble_eq_true rfl, Nat.le_of_ble_eq_true rfl⟩) hP hK hD hC hpp (c_hd br_12h (cw_row br_12l)) rfl rfl hl.1 rfl (lv_room (Nat.le_of_ble_eq_true rfl)) dX7_bound_71) hS hD hh hpp (fun r_18 S_19 H locs hw_20 hP hD hS hC hh hs_21 hpq => ?_)
        clear hpp
        have hpp := hpq
        clear hpq
        obtain ⟨hu9, hw_20⟩ := hw_20
        have hu9 := hu9.symm
        subst hu9
        obtain ⟨rb1, rb2⟩ := (hz.bn vr4 vr5 (show 0 < 2 by decide)).2 i9 hi9
        obtain rfl : r_18 = nI ((row z 0 (z.1 6 j9)).getD i9 0) := hw_20.trans (rget_k (by rw [br_12k]; exact hi9) (by rw [br_12k]; omega) (by rw [br_12q]; exact rb1))
        refine lv_iload hx hb dX7_bound_74 (lv_at hl 1 rfl) ?_
        refine lv_aload_n hx hb dX7_bound_76 rfl (lv_at hl 3 rfl) ?_
        refine va_get (D := gD G) (ci := 7) (v := .ref (ga G 6)) (C := RX7) (T := TX7) (N := 4) hx hb htu cu_in7 hown hK hP 0 cw_0 rfl 3 (by decide) (htu _ C_19) (fun _ h9 => h9) rfl dX7_bound_77 ?_
        have hC0 := hC
        refine c_cv (c_runV (As := [.int (nI ((row z 0 (z.1 6 j9)).getD i9 0)), .int 0, .ref (ga G 6)]) (rest := []) (q0 := 3) (ci := 2) ⟨hx, hb, hml, hown, htu⟩ (xl_tell_6 l G S T V V X Y Z z 0 (((row z 0 (z.1 6 j9)).getD i9 0)) hC hY ((Nat.le_refl _)) hz h19 h20 h21 hso rb2 ((by decide)) H) (cwV 3 htu hU_X7_158 rfl rfl rfl (by decide +kernel) ⟨Nat.le_of_ble_eq_true rfl, Nat.le_of_ble_eq_true rfl⟩) hP hK hD hC hpp cw_3 rfl rfl hl.1 rfl (lv_room (Nat.le_of_ble_eq_true rfl)) dX7_bound_80) hS hD hh hpp (fun S_23 H locs hw_24 hP hD hS hC hh hs_25 hpq => ?_)
        clear hpp
        have hpp := hpq
        clear hpq
        try dsimp only at hw_24
        have aw_26 : AW [19, 20, 21, 22] [200, 300] S S_23 := hw_24.1
        have aw_26t : AW [19, 20, 21, 22] [200, 300] S S_23 := AW.rf.tr (aw_26.mono (by decide) (by decide))
        have kk_27 : kK S_23 15 = 0 := (aw_26.2.1 15 (lt35 (by decide)) (by decide)).2.trans h15
        have ii_28 : S_23.1 201 = nI a1 := (aw_26.1 201 (by decide)).trans h201
        have ii_29 : S_23.1 202 = nI a2 := (aw_26.1 202 (by decide)).trans h202
        have ha_30r : br_12r < 35 + kB S_23 := by have := hs_25.1; have := br_12l; omega
        have ha_30 : kH S_23 br_12r = r_8 := (hs_25.2 br_12r br_12l).trans br_12h
        have tj_31 : TJ S_23 N := TJ.aw hT aw_26 (by decide)
        have ty_32 := TY.aw hY aw_26 (by decide)
        have tl_33 := hw_24.2
        refine lv_aload_n hx hb dX7_bound_83 rfl (lv_at hl 3 rfl) ?_
        refine va_get (D := gD G) (ci := 7) (v := .ref (ga G 6)) (C := RX7) (T := TX7) (N := 4) hx hb htu cu_in7 hown hK hP 0 cw_0 rfl 3 (by decide) (htu _ C_19) (fun _ h9 => h9) rfl dX7_bound_84 ?_
        refine lv_iload hx hb dX7_bound_87 (lv_at hl 7 rfl) ?_
        have hC0 := hC
        refine c_ci (c_runV (As := [.int y]) (rest := []) (q0 := 6) (ci := 1) ⟨hx, hb, hml, hown, htu⟩ (xs_at_6 l G S_23 ((TX9 z ((row z 0 (z.1 6 j9)).getD i9 0) 0)) y hC tl_33.2.1 TX9.len H) (cwV 1 htu hU_X7_124 rfl rfl rfl (by decide +kernel) ⟨Nat.le_of_ble_eq_true rfl, Nat.le_of_ble_eq_true rfl⟩) hP hK hD hC hpp cw_6 rfl rfl hl.1 rfl (lv_room (Nat.le_of_ble_eq_true rfl)) dX7_bound_89) hS hD hh hpp (fun r_34 S_35 H locs hw_36 hP hD hS hC hh hs_37 hpq => ?_)
        clear hpp
        have hpp := hpq
        clear hpq
        obtain ⟨-, hu9, hw_36⟩ := hw_36
        have hu9 := hu9.symm
        subst hu9
        exact c_iret (v := r_34) hx hb hr hK hP hD hS hC hh hpp ⟨aw_26t, ⟨⟨tj_31, ⟨_, _, _, _, _, ty_32⟩, ⟨kk_27, tl_33.1.1, tl_33.1.2.1, tl_33.1.2.2⟩, ⟨_, tl_33.2.1.1, TX9.len⟩, ⟨_, ii_28, a1l⟩, ⟨_, ii_29, a2l⟩⟩, tl_33.2.2, Or.inr ⟨j9, 0, vr1, vr2, (by rw [if_pos c_7]), Or.inr ⟨i9, hi9, rfl, hw_36⟩⟩⟩⟩ dX7_bound_92 hlocks
      · skip
        refine lv_bipush (v := (-9)) hx hb dX7_bound_58 (by decide) ?_
        exact c_iret (v := (-9)) hx hb hr hK hP hD hS hC hh hpp ⟨AW.rf, ⟨hI, hso, Or.inr ⟨j9, 0, vr1, vr2, (by rw [if_pos c_7]), Or.inl ⟨rfl, fun ⟨j, hj, e⟩ => rholds_no (hw_15.symm.trans c_17) (Nat.lt_trans (kK_lt hC br_12l) (by decide)) (by rw [br_12k]; exact hj) e⟩⟩⟩⟩ dX7_bound_60 hlocks
    · skip
      refine lv_iconst (v := 1) hx hb dX7_bound_26 (by decide) ?_
      refine lv_goto (tgt := 31) hx hb dX7_bound_27 (by decide) ?_
      refine lv_istore (lv' := [(6, .int 1), (5, .int (nI (z.1 6 j9))), (0, .ref (ga G 0)), (1, .int x), (2, .int ab), (3, .int iv), (4, .int y)]) hx hb dX7_bound_31 hl (by decide) rfl (fun ls hl => ?_)
      refine lv_aload_n hx hb dX7_bound_33 rfl (lv_at hl 2 rfl) ?_
      refine va_get (D := gD G) (ci := 7) (v := .ref (ga G 4)) (C := RX7) (T := TX7) (N := 4) hx hb htu cu_in7 hown hK hP 0 cw_0 rfl 1 (by decide) (htu _ C_11) (fun _ h9 => h9) rfl dX7_bound_34 ?_
      refine va_get (D := gD G) (ci := 5) (v := .ref (ga G 2)) (C := RX5) (T := TX5) (N := 15) hx hb htu cu_in5 hown hK hP 4 cw_4 rfl 1 (by decide) (htu _ C_520) (fun _ h9 => h9) rfl dX7_bound_37 ?_
      refine lv_iload hx hb dX7_bound_40 (lv_at hl 1 rfl) ?_
      refine lv_iload hx hb dX7_bound_42 (lv_at hl 0 rfl) ?_
      have hC0 := hC
      refine c_cr (c_runV (As := [.int (nI (z.1 6 j9)), .int 1]) (rest := []) (q0 := 2) (ci := 4) ⟨hx, hb, hml, hown, htu⟩ (y_boundsOf l G S T V V X Y Z (nI (z.1 6 j9)) 1 hC hY ((Nat.le_refl _)) ((by decide)) H) (cwV 2 htu hU_X7_139 rfl rfl rfl (by decide +kernel) ⟨Nat.le_of_ble_eq_true rfl, Nat.le_of_ble_eq_true rfl⟩) hP hK hD hC hpp cw_2 rfl rfl hl.1 rfl (lv_room (Nat.le_of_ble_eq_true rfl)) dX7_bound_44) hS hD hh hpp (fun r_38 S_39 H locs hw_40 hP hD hS hC hh hs_41 hpq => ?_)
      clear hpp
      have hpp := hpq
      clear hpq
      obtain ⟨-, hu9, hw_40⟩ := hw_40
      have hu9 := hu9.symm
      subst hu9
      obtain ⟨br_42r, br_42e, br_421⟩ := hw_40
      have br_42b := hY.2.1.2.2.1
      have br_42l : br_42r < 35 + kB S := bnd_lt br_421 br_42b (by decide)
      have br_42h : kH S br_42r = r_38 := br_42e.symm
      have br_42q : br_42r = 35 + (2 * one z (z.1 6 j9) + 1) := hz.bof vr4 vr5 br_421 (by omega) (by omega)
      have br_42k : kK S br_42r = (row z 1 (z.1 6 j9)).length := by rw [br_42q]; exact (hz.bn vr4 vr5 (by decide)).1
      have hlen := hz.rlen hC vr4 vr5 (show 1 < 2 by decide)
      refine lv_astore (lv' := [(7, .ref r_38), (6, .int 1), (5, .int (nI (z.1 6 j9))), (0, .ref (ga G 0)), (1, .int x), (2, .int ab), (3, .int iv), (4, .int y)]) hx hb dX7_bound_47 hl (by decide) rfl (fun ls hl => ?_)
      refine lv_aload hx hb dX7_bound_49 (lv_at hl 0 rfl) ?_
      refine lv_iload_n hx hb dX7_bound_51 rfl (lv_at hl 6 rfl) ?_
      have hC0 := hC
      refine c_ci (c_runV (As := [.int iv]) (rest := []) (q0 := (2 * br_42r + 13)) (ci := 0) ⟨hx, hb, hml, hown, htu⟩ (c_holdsA l G S br_42r br_42l hC r_38 br_42h iv H) (cwV 1 htu hU_X7_148 rfl rfl rfl (by decide +kernel) ⟨Nat.le_of_ble_eq_true rfl, Nat.le_of_ble_eq_true rfl⟩) hP hK hD hC hpp (c_hd br_42h (cw_row br_42l)) rfl rfl hl.1 rfl (lv_room (Nat.le_of_ble_eq_true rfl)) dX7_bound_52) hS hD hh hpp (fun r_43 S_44 H locs hw_45 hP hD hS hC hh hs_46 hpq => ?_)
      clear hpp
      have hpp := hpq
      clear hpq
      obtain ⟨hu9, hw_45⟩ := hw_45
      have hu9 := hu9.symm
      subst hu9
      refine lv_if_ne (tgt := 61) hx hb dX7_bound_55 (by decide) (fun c_47 => ?_) (fun c_47 => ?_)
      · skip
        obtain ⟨i9, hi9, rfl⟩ := rholds_of (fun h => c_47 (hw_45.trans h)) (Nat.lt_trans (kK_lt hC br_42l) (by decide))
        rw [br_42k] at hi9
        refine lv_aload_n hx hb dX7_bound_61 rfl (lv_at hl 3 rfl) ?_
        refine va_get (D := gD G) (ci := 7) (v := .ref (ga G 4)) (C := RX7) (T := TX7) (N := 4) hx hb htu cu_in7 hown hK hP 0 cw_0 rfl 1 (by decide) (htu _ C_11) (fun _ h9 => h9) rfl dX7_bound_62 ?_
        refine va_get (D := gD G) (ci := 5) (v := .ref (ga G 3)) (C := RX5) (T := TX5) (N := 15) hx hb htu cu_in5 hown hK hP 4 cw_4 rfl 2 (by decide) (htu _ C_529) (fun _ h9 => h9) rfl dX7_bound_65 ?_
        refine lv_aload hx hb dX7_bound_68 (lv_at hl 0 rfl) ?_
        refine lv_iload_n hx hb dX7_bound_70 rfl (lv_at hl 6 rfl) ?_
        have hC0 := hC
        refine c_ci (c_runV (As := [.int (nI i9)]) (rest := [.ref (ga G 3)]) (q0 := (2 * br_42r + 13)) (ci := 0) ⟨hx, hb, hml, hown, htu⟩ (c_getA l G S br_42r br_42l hC r_38 br_42h (nI i9) H) (cwV 1 htu hU_X7_155 rfl rfl rfl (by decide +kernel) ⟨Nat.le_of_ble_eq_true rfl, Nat.le_of_ble_eq_true rfl⟩) hP hK hD hC hpp (c_hd br_42h (cw_row br_42l)) rfl rfl hl.1 rfl (lv_room (Nat.le_of_ble_eq_true rfl)) dX7_bound_71) hS hD hh hpp (fun r_48 S_49 H locs hw_50 hP hD hS hC hh hs_51 hpq => ?_)
        clear hpp
        have hpp := hpq
        clear hpq
        obtain ⟨hu9, hw_50⟩ := hw_50
        have hu9 := hu9.symm
        subst hu9
        obtain ⟨rb1, rb2⟩ := (hz.bn vr4 vr5 (show 1 < 2 by decide)).2 i9 hi9
        obtain rfl : r_48 = nI ((row z 1 (z.1 6 j9)).getD i9 0) := hw_50.trans (rget_k (by rw [br_42k]; exact hi9) (by rw [br_42k]; omega) (by rw [br_42q]; exact rb1))
        refine lv_iload hx hb dX7_bound_74 (lv_at hl 1 rfl) ?_
        refine lv_aload_n hx hb dX7_bound_76 rfl (lv_at hl 3 rfl) ?_
        refine va_get (D := gD G) (ci := 7) (v := .ref (ga G 6)) (C := RX7) (T := TX7) (N := 4) hx hb htu cu_in7 hown hK hP 0 cw_0 rfl 3 (by decide) (htu _ C_19) (fun _ h9 => h9) rfl dX7_bound_77 ?_
        have hC0 := hC
        refine c_cv (c_runV (As := [.int (nI ((row z 1 (z.1 6 j9)).getD i9 0)), .int 1, .ref (ga G 6)]) (rest := []) (q0 := 3) (ci := 2) ⟨hx, hb, hml, hown, htu⟩ (xl_tell_6 l G S T V V X Y Z z 1 (((row z 1 (z.1 6 j9)).getD i9 0)) hC hY ((Nat.le_refl _)) hz h19 h20 h21 hso rb2 ((by decide)) H) (cwV 3 htu hU_X7_158 rfl rfl rfl (by decide +kernel) ⟨Nat.le_of_ble_eq_true rfl, Nat.le_of_ble_eq_true rfl⟩) hP hK hD hC hpp cw_3 rfl rfl hl.1 rfl (lv_room (Nat.le_of_ble_eq_true rfl)) dX7_bound_80) hS hD hh hpp (fun S_53 H locs hw_54 hP hD hS hC hh hs_55 hpq => ?_)
        clear hpp
        have hpp := hpq
        clear hpq
        try dsimp only at hw_54
        have aw_56 : AW [19, 20, 21, 22] [200, 300] S S_53 := hw_54.1
        have aw_56t : AW [19, 20, 21, 22] [200, 300] S S_53 := AW.rf.tr (aw_56.mono (by decide) (by decide))
        have kk_57 : kK S_53 15 = 0 := (aw_56.2.1 15 (lt35 (by decide)) (by decide)).2.trans h15
        have ii_58 : S_53.1 201 = nI a1 := (aw_56.1 201 (by decide)).trans h201
        have ii_59 : S_53.1 202 = nI a2 := (aw_56.1 202 (by decide)).trans h202
        have ha_60r : br_42r < 35 + kB S_53 := by have := hs_55.1; have := br_42l; omega
        have ha_60 : kH S_53 br_42r = r_38 := (hs_55.2 br_42r br_42l).trans br_42h
        have tj_61 : TJ S_53 N := TJ.aw hT aw_56 (by decide)
        have ty_62 := TY.aw hY aw_56 (by decide)
        have tl_63 := hw_54.2
        refine lv_aload_n hx hb dX7_bound_83 rfl (lv_at hl 3 rfl) ?_
        refine va_get (D := gD G) (ci := 7) (v := .ref (ga G 6)) (C := RX7) (T := TX7) (N := 4) hx hb htu cu_in7 hown hK hP 0 cw_0 rfl 3 (by decide) (htu _ C_19) (fun _ h9 => h9) rfl dX7_bound_84 ?_
        refine lv_iload hx hb dX7_bound_87 (lv_at hl 7 rfl) ?_
        have hC0 := hC
        refine c_ci (c_runV (As := [.int y]) (rest := []) (q0 := 6) (ci := 1) ⟨hx, hb, hml, hown, htu⟩ (xs_at_6 l G S_53 ((TX9 z ((row z 1 (z.1 6 j9)).getD i9 0) 1)) y hC tl_63.2.1 TX9.len H) (cwV 1 htu hU_X7_124 rfl rfl rfl (by decide +kernel) ⟨Nat.le_of_ble_eq_true rfl, Nat.le_of_ble_eq_true rfl⟩) hP hK hD hC hpp cw_6 rfl rfl hl.1 rfl (lv_room (Nat.le_of_ble_eq_true rfl)) dX7_bound_89) hS hD hh hpp (fun r_64 S_65 H locs hw_66 hP hD hS hC hh hs_67 hpq => ?_)
        clear hpp
        have hpp := hpq
        clear hpq
        obtain ⟨-, hu9, hw_66⟩ := hw_66
        have hu9 := hu9.symm
        subst hu9
        exact c_iret (v := r_64) hx hb hr hK hP hD hS hC hh hpp ⟨aw_56t, ⟨⟨tj_61, ⟨_, _, _, _, _, ty_62⟩, ⟨kk_57, tl_63.1.1, tl_63.1.2.1, tl_63.1.2.2⟩, ⟨_, tl_63.2.1.1, TX9.len⟩, ⟨_, ii_58, a1l⟩, ⟨_, ii_59, a2l⟩⟩, tl_63.2.2, Or.inr ⟨j9, 1, vr1, vr2, (by rw [if_neg c_7]), Or.inr ⟨i9, hi9, rfl, hw_66⟩⟩⟩⟩ dX7_bound_92 hlocks
      · skip
        refine lv_bipush (v := (-9)) hx hb dX7_bound_58 (by decide) ?_
        exact c_iret (v := (-9)) hx hb hr hK hP hD hS hC hh hpp ⟨AW.rf, ⟨hI, hso, Or.inr ⟨j9, 1, vr1, vr2, (by rw [if_neg c_7]), Or.inl ⟨rfl, fun ⟨j, hj, e⟩ => rholds_no (hw_45.symm.trans c_47) (Nat.lt_trans (kK_lt hC br_42l) (by decide)) (by rw [br_42k]; exact hj) e⟩⟩⟩⟩ dX7_bound_60 hlocks

set_option maxHeartbeats 4000000 in
set_option maxRecDepth 100000 in
/-- field -/
theorem xz_field (l : Launch) (G : cG) (S : cS) (N : Nat) (x : Int32) (y : Int32) (w9 : Int32) (hC : CL S) (hT : TI S N) (Hs : Heap) : Met l yX7_field (wC yX7_field cX7_field 4 (some .int)) (cRm S 6 168) (cPc G S Hs [.ref (ga G 0), .int x, .int y, .int w9]) (cQi G S Hs (fun v u => AW [2, 3, 4, 5, 6, 7, 8, 9, 16, 14, 10, 11, 12, 13, 17, 18] [12, 13, 14] S u ∧ ((v = -1 ∧ u = S ∧ ¬ FOK S N x y w9) ∨ (FOK S N x y w9 ∧ (¬ rget (kF S 0) N x = 5 ∨ ¬ t_hasL (kF S 3) (kF S 5) N x y = 0) ∧ v = -4 ∧ u = S) ∨ (FOK S N x y w9 ∧ (rget (kF S 0) N x = 5 ∧ t_hasL (kF S 3) (kF S 5) N x y = 0) ∧ ¬ t_pc (kF S 3) N x < 6 ∧ v = -2 ∧ u = S) ∨ (FOK S N x y w9 ∧ (rget (kF S 0) N x = 5 ∧ t_hasL (kF S 3) (kF S 5) N x y = 0) ∧ t_pc (kF S 3) N x < 6 ∧ v = t_pc (kF u 3) N x ∧ FLD S u N x y w9 ∧ S0 u ∧ u.1 13 = -9 ∧ u.1 14 = -4)))) (CC - PT S) (12 * (CC - PT S)) (cA G S Hs.size) := by
  refine Met.ofW (cc := cX7_field) (maxL := 4) (ret := (some .int)) (by decide) rfl ?_
  intro p e s m args below meth c s₁ B hml hv
  obtain ⟨rfl, hsz, hP, hK, hD0, -⟩ := hv
  have hx := B.exec
  have hb := B.bytes
  have hr := B.returns
  have htu : ∀ w ∈ CU, w.before _ s = true := fun w h => atoms_spec (ws := (wC yX7_field cX7_field 4 (some .int))) B.pre w (List.mem_cons_of_mem _ h)
  have hown : s.vm.findClass RX7 = some m.cls := findClass_of_methodNamed B.named
  have hlocks := B.notSynchronized
  subst hsz
  have hD : cD (cA G S s.heap.size) G S := cD_self hD0
  have hl := lv_entry ([.ref (ga G 0), .int x, .int y, .int w9]) (n := 4) (Nat.le_of_ble_eq_true rfl)
  rw [lg_entry_eq]
  generalize (lg_sl ([.ref (ga G 0), .int x, .int y, .int w9]) ++ List.replicate (4 - (lg_sl ([.ref (ga G 0), .int x, .int y, .int w9])).length) Slot.unset).toArray = ls at hl ⊢
  have hl : lv_has ls 4 [(0, .ref (ga G 0)), (1, .int x), (2, .int y), (3, .int w9)] := hl
  obtain ⟨H, hHe⟩ : ∃ H : Heap, H = s.heap := ⟨_, rfl⟩
  rw [← hHe] at hP
  have hS : va_S (cA G S s.heap.size) s.heap H [] := by rw [hHe]; exact va_S.rf
  have hh : HS S S := HS.rf
  have hpp : PT S ≤ PT S := Nat.le_refl _
  have hB9 := hC.1
  refine W.heq hHe ?_
  refine c_ent (S := S) ?_
  refine lv_aload_n hx hb dX7_field_0 rfl (lv_at hl 0 rfl) ?_
  refine va_get (D := gD G) (ci := 7) (v := .ref (ga G 1)) (C := RX7) (T := TX7) (N := 4) hx hb htu cu_in7 hown hK hP 0 cw_0 rfl 0 (by decide) (htu _ C_7) (fun _ h9 => h9) rfl dX7_field_1 ?_
  refine lv_iload_n hx hb dX7_field_4 rfl (lv_at hl 1 rfl) ?_
  have hC0 := hC
  refine c_ci (c_runV (As := [.int x]) (rest := []) (q0 := 1) (ci := 3) ⟨hx, hb, hml, hown, htu⟩ (tt_isNode l G S N x hC hT H) (cwV 1 htu hU_X7_67 rfl rfl rfl (by decide +kernel) ⟨Nat.le_of_ble_eq_true rfl, Nat.le_of_ble_eq_true rfl⟩) hP hK hD hC hpp cw_1 rfl rfl hl.1 rfl (lv_room (Nat.le_of_ble_eq_true rfl)) dX7_field_5) hS hD hh hpp (fun r_1 S_2 H locs hw_3 hP hD hS hC hh hs_4 hpq => ?_)
  clear hpp
  have hpp := hpq
  clear hpq
  obtain ⟨-, hu9, hw_3⟩ := hw_3
  have hu9 := hu9.symm
  subst hu9
  refine lv_if_eq (tgt := 29) hx hb dX7_field_8 (by decide) (fun c_5 => ?_) (fun c_5 => ?_)
  · skip
    refine lv_iconst (v := (-1)) hx hb dX7_field_29 (by decide) ?_
    exact c_iret (v := (-1)) hx hb hr hK hP hD hS hC hh hpp ⟨AW.rf, (Or.inl ⟨rfl, rfl, fun h => h.1 (hw_3.symm.trans c_5)⟩)⟩ dX7_field_30 hlocks
  · skip
    refine lv_iload_n hx hb dX7_field_11 rfl (lv_at hl 2 rfl) ?_
    have hC0 := hC
    refine c_ci (c_runS (As := [.int y]) (rest := []) ⟨hx, hb, hml, hown, htu⟩ (z_isLetter l G S y hC  H) (va_cwS 1 htu hU_X7_70 rfl rfl rfl (by decide +kernel) ⟨Nat.le_of_ble_eq_true rfl, Nat.le_of_ble_eq_true rfl⟩) hP hK hD hC hpp rfl hl.1 rfl (lv_room (Nat.le_of_ble_eq_true rfl)) dX7_field_12) hS hD hh hpp (fun r_6 S_7 H locs hw_8 hP hD hS hC hh hs_9 hpq => ?_)
    clear hpp
    have hpp := hpq
    clear hpq
    obtain ⟨-, hu9, hw_8⟩ := hw_8
    have hu9 := hu9.symm
    subst hu9
    refine lv_if_eq (tgt := 29) hx hb dX7_field_15 (by decide) (fun c_10 => ?_) (fun c_10 => ?_)
    · skip
      refine lv_iconst (v := (-1)) hx hb dX7_field_29 (by decide) ?_
      exact c_iret (v := (-1)) hx hb hr hK hP hD hS hC hh hpp ⟨AW.rf, (Or.inl ⟨rfl, rfl, fun h => h.2.1 (hw_8.symm.trans c_10)⟩)⟩ dX7_field_30 hlocks
    · skip
      refine lv_aload_n hx hb dX7_field_18 rfl (lv_at hl 0 rfl) ?_
      refine va_get (D := gD G) (ci := 7) (v := .ref (ga G 1)) (C := RX7) (T := TX7) (N := 4) hx hb htu cu_in7 hown hK hP 0 cw_0 rfl 0 (by decide) (htu _ C_7) (fun _ h9 => h9) rfl dX7_field_19 ?_
      refine lv_iload_n hx hb dX7_field_22 rfl (lv_at hl 3 rfl) ?_
      have hC0 := hC
      refine c_ci (c_runV (As := [.int w9]) (rest := []) (q0 := 1) (ci := 3) ⟨hx, hb, hml, hown, htu⟩ (tt_isFree l G S N w9 hC hT H) (cwV 1 htu hU_X7_73 rfl rfl rfl (by decide +kernel) ⟨Nat.le_of_ble_eq_true rfl, Nat.le_of_ble_eq_true rfl⟩) hP hK hD hC hpp cw_1 rfl rfl hl.1 rfl (lv_room (Nat.le_of_ble_eq_true rfl)) dX7_field_23) hS hD hh hpp (fun r_11 S_12 H locs hw_13 hP hD hS hC hh hs_14 hpq => ?_)
      clear hpp
      have hpp := hpq
      clear hpq
      obtain ⟨-, hu9, hw_13⟩ := hw_13
      have hu9 := hu9.symm
      subst hu9
      refine lv_if_ne (tgt := 31) hx hb dX7_field_26 (by decide) (fun c_15 => ?_) (fun c_15 => ?_)
      · skip
        refine lv_aload_n hx hb dX7_field_31 rfl (lv_at hl 0 rfl) ?_
        refine va_get (D := gD G) (ci := 7) (v := .ref (ga G 1)) (C := RX7) (T := TX7) (N := 4) hx hb htu cu_in7 hown hK hP 0 cw_0 rfl 0 (by decide) (htu _ C_7) (fun _ h9 => h9) rfl dX7_field_32 ?_
        refine lv_iload_n hx hb dX7_field_35 rfl (lv_at hl 1 rfl) ?_
        have hC0 := hC
        refine c_ci (c_runV (As := [.int x]) (rest := []) (q0 := 1) (ci := 3) ⟨hx, hb, hml, hown, htu⟩ (tt_topOf l G S N x hC hT H) (cwV 1 htu hU_X7_76 rfl rfl rfl (by decide +kernel) ⟨Nat.le_of_ble_eq_true rfl, Nat.le_of_ble_eq_true rfl⟩) hP hK hD hC hpp cw_1 rfl rfl hl.1 rfl (lv_room (Nat.le_of_ble_eq_true rfl)) dX7_field_36) hS hD hh hpp (fun r_16 S_17 H locs hw_18 hP hD hS hC hh hs_19 hpq => ?_)
        clear hpp
        have hpp := hpq
        clear hpq
        obtain ⟨-, hu9, hw_18⟩ := hw_18
        have hu9 := hu9.symm
        subst hu9
        refine lv_iload_n hx hb dX7_field_39 rfl (lv_at hl 3 rfl) ?_
        refine lv_icmp_ne (tgt := 45) hx hb dX7_field_40 (by decide) (fun c_20 => ?_) (fun c_20 => ?_)
        · skip
          refine lv_aload_n hx hb dX7_field_45 rfl (lv_at hl 0 rfl) ?_
          refine va_get (D := gD G) (ci := 7) (v := .ref (ga G 1)) (C := RX7) (T := TX7) (N := 4) hx hb htu cu_in7 hown hK hP 0 cw_0 rfl 0 (by decide) (htu _ C_7) (fun _ h9 => h9) rfl dX7_field_46 ?_
          refine lv_iload_n hx hb dX7_field_49 rfl (lv_at hl 1 rfl) ?_
          have hC0 := hC
          refine c_ci (c_runV (As := [.int x]) (rest := []) (q0 := 1) (ci := 3) ⟨hx, hb, hml, hown, htu⟩ (tt_kindOf l G S N x hC hT H) (cwV 1 htu hU_X7_79 rfl rfl rfl (by decide +kernel) ⟨Nat.le_of_ble_eq_true rfl, Nat.le_of_ble_eq_true rfl⟩) hP hK hD hC hpp cw_1 rfl rfl hl.1 rfl (lv_room (Nat.le_of_ble_eq_true rfl)) dX7_field_50) hS hD hh hpp (fun r_21 S_22 H locs hw_23 hP hD hS hC hh hs_24 hpq => ?_)
          clear hpp
          have hpp := hpq
          clear hpq
          obtain ⟨-, hu9, hw_23⟩ := hw_23
          have hu9 := hu9.symm
          subst hu9
          refine lv_iconst (v := 5) hx hb dX7_field_53 (by decide) ?_
          refine lv_icmp_ne (tgt := 69) hx hb dX7_field_54 (by decide) (fun c_25 => ?_) (fun c_25 => ?_)
          · skip
            refine lv_bipush (v := (-4)) hx hb dX7_field_69 (by decide) ?_
            exact c_iret (v := (-4)) hx hb hr hK hP hD hS hC hh hpp ⟨AW.rf, (Or.inr (Or.inl ⟨⟨fun h => c_5 (hw_3.trans h), fun h => c_10 (hw_8.trans h), fun h => c_15 (hw_13.trans h), fun h => c_20 (hw_18.trans h)⟩, Or.inl (fun h => c_25 (hw_23.trans h)), rfl, rfl⟩))⟩ dX7_field_71 hlocks
          · skip
            refine lv_aload_n hx hb dX7_field_57 rfl (lv_at hl 0 rfl) ?_
            refine va_get (D := gD G) (ci := 7) (v := .ref (ga G 1)) (C := RX7) (T := TX7) (N := 4) hx hb htu cu_in7 hown hK hP 0 cw_0 rfl 0 (by decide) (htu _ C_7) (fun _ h9 => h9) rfl dX7_field_58 ?_
            refine lv_iload_n hx hb dX7_field_61 rfl (lv_at hl 1 rfl) ?_
            refine lv_iload_n hx hb dX7_field_62 rfl (lv_at hl 2 rfl) ?_
            have hC0 := hC
            refine c_ci (c_runV (As := [.int x, .int y]) (rest := []) (q0 := 1) (ci := 3) ⟨hx, hb, hml, hown, htu⟩ (tt_hasLabel l G S N x y hC hT H) (cwV 2 htu hU_X7_82 rfl rfl rfl (by decide +kernel) ⟨Nat.le_of_ble_eq_true rfl, Nat.le_of_ble_eq_true rfl⟩) hP hK hD hC hpp cw_1 rfl rfl hl.1 rfl (lv_room (Nat.le_of_ble_eq_true rfl)) dX7_field_63) hS hD hh hpp (fun r_26 S_27 H locs hw_28 hP hD hS hC hh hs_29 hpq => ?_)
            clear hpp
            have hpp := hpq
            clear hpq
            obtain ⟨-, hu9, hw_28⟩ := hw_28
            have hu9 := hu9.symm
            subst hu9
            refine lv_if_eq (tgt := 72) hx hb dX7_field_66 (by decide) (fun c_30 => ?_) (fun c_30 => ?_)
            · skip
              refine lv_aload_n hx hb dX7_field_72 rfl (lv_at hl 0 rfl) ?_
              refine va_get (D := gD G) (ci := 7) (v := .ref (ga G 1)) (C := RX7) (T := TX7) (N := 4) hx hb htu cu_in7 hown hK hP 0 cw_0 rfl 0 (by decide) (htu _ C_7) (fun _ h9 => h9) rfl dX7_field_73 ?_
              refine lv_iload_n hx hb dX7_field_76 rfl (lv_at hl 1 rfl) ?_
              have hC0 := hC
              refine c_ci (c_runV (As := [.int x]) (rest := []) (q0 := 1) (ci := 3) ⟨hx, hb, hml, hown, htu⟩ (tt_partCount l G S N x hC hT H) (cwV 1 htu hU_X7_85 rfl rfl rfl (by decide +kernel) ⟨Nat.le_of_ble_eq_true rfl, Nat.le_of_ble_eq_true rfl⟩) hP hK hD hC hpp cw_1 rfl rfl hl.1 rfl (lv_room (Nat.le_of_ble_eq_true rfl)) dX7_field_77) hS hD hh hpp (fun r_31 S_32 H locs hw_33 hP hD hS hC hh hs_34 hpq => ?_)
              clear hpp
              have hpp := hpq
              clear hpq
              obtain ⟨-, hu9, hw_33⟩ := hw_33
              have hu9 := hu9.symm
              subst hu9
              refine lv_bipush (v := 6) hx hb dX7_field_80 (by decide) ?_
              refine lv_icmp_lt (tgt := 88) hx hb dX7_field_82 (by decide) (fun c_35 => ?_) (fun c_35 => ?_)
              · skip
                refine lv_aload_n hx hb dX7_field_88 rfl (lv_at hl 0 rfl) ?_
                refine va_get (D := gD G) (ci := 7) (v := .ref (ga G 1)) (C := RX7) (T := TX7) (N := 4) hx hb htu cu_in7 hown hK hP 0 cw_0 rfl 0 (by decide) (htu _ C_7) (fun _ h9 => h9) rfl dX7_field_89 ?_
                refine lv_iload_n hx hb dX7_field_92 rfl (lv_at hl 1 rfl) ?_
                refine lv_iload_n hx hb dX7_field_93 rfl (lv_at hl 2 rfl) ?_
                refine lv_iload_n hx hb dX7_field_94 rfl (lv_at hl 3 rfl) ?_
                have hC0 := hC
                refine c_cv (c_runV (As := [.int x, .int y, .int w9]) (rest := []) (q0 := 1) (ci := 3) ⟨hx, hb, hml, hown, htu⟩ (tt_addPart l G S N x y w9 hC hT H) (cwV 3 htu hU_X7_88 rfl rfl rfl (by decide +kernel) ⟨Nat.le_of_ble_eq_true rfl, Nat.le_of_ble_eq_true rfl⟩) hP hK hD hC hpp cw_1 rfl rfl hl.1 rfl (lv_room (Nat.le_of_ble_eq_true rfl)) dX7_field_95) hS hD hh hpp (fun S_37 H locs hw_38 hP hD hS hC hh hs_39 hpq => ?_)
                clear hpp
                have hpp := hpq
                clear hpq
                try dsimp only at hw_38
                have aw_40 : AW [2, 3, 4, 5] [] S S_37 := hw_38.1
                have aw_40t : AW [2, 3, 4, 5, 6, 7, 8, 9, 16, 14, 10, 11, 12, 13, 17, 18] [12, 13, 14] S S_37 := AW.rf.tr (aw_40.mono (by decide) (by decide))
                have hap := hw_38.2
                have ti1 : TI S_37 N := by rw [hap]; exact hT
                refine lv_aload_n hx hb dX7_field_98 rfl (lv_at hl 0 rfl) ?_
                refine va_get (D := gD G) (ci := 7) (v := .ref (ga G 4)) (C := RX7) (T := TX7) (N := 4) hx hb htu cu_in7 hown hK hP 0 cw_0 rfl 1 (by decide) (htu _ C_11) (fun _ h9 => h9) rfl dX7_field_99 ?_
                have hC0 := hC
                refine c_cv (c_runV (As := []) (rest := []) (q0 := 4) (ci := 5) ⟨hx, hb, hml, hown, htu⟩ (x_forget l G S_37  hC  H) (cwV 0 htu hU_X7_92 rfl rfl rfl (by decide +kernel) ⟨Nat.le_of_ble_eq_true rfl, Nat.le_of_ble_eq_true rfl⟩) hP hK hD hC hpp cw_4 rfl rfl hl.1 rfl (lv_room (Nat.le_of_ble_eq_true rfl)) dX7_field_102) hS hD hh hpp (fun S_42 H locs hw_43 hP hD hS hC hh hs_44 hpq => ?_)
                clear hpp
                have hpp := hpq
                clear hpq
                try dsimp only at hw_43
                have aw_45 : AW [6, 7, 8, 9, 16, 14, 10, 11, 12, 13, 17, 18] [12, 13, 14] S_37 S_42 := hw_43.1
                have aw_45t : AW [2, 3, 4, 5, 6, 7, 8, 9, 16, 14, 10, 11, 12, 13, 17, 18] [12, 13, 14] S S_42 := aw_40t.tr (aw_45.mono (by decide) (by decide))
                obtain ⟨⟨fg_46, fg_46s⟩, fg_4612, fg_4613, fg_4614⟩ := hw_43.2
                have ti2 : TI S_42 N := TI.aw ti1 aw_45 (by decide)
                refine lv_aload_n hx hb dX7_field_105 rfl (lv_at hl 0 rfl) ?_
                refine va_get (D := gD G) (ci := 7) (v := .ref (ga G 1)) (C := RX7) (T := TX7) (N := 4) hx hb htu cu_in7 hown hK hP 0 cw_0 rfl 0 (by decide) (htu _ C_7) (fun _ h9 => h9) rfl dX7_field_106 ?_
                refine lv_iload_n hx hb dX7_field_109 rfl (lv_at hl 1 rfl) ?_
                have hC0 := hC
                refine c_ci (c_runV (As := [.int x]) (rest := []) (q0 := 1) (ci := 3) ⟨hx, hb, hml, hown, htu⟩ (tt_partCount l G S_42 N x hC ti2 H) (cwV 1 htu hU_X7_85 rfl rfl rfl (by decide +kernel) ⟨Nat.le_of_ble_eq_true rfl, Nat.le_of_ble_eq_true rfl⟩) hP hK hD hC hpp cw_1 rfl rfl hl.1 rfl (lv_room (Nat.le_of_ble_eq_true rfl)) dX7_field_110) hS hD hh hpp (fun r_47 S_48 H locs hw_49 hP hD hS hC hh hs_50 hpq => ?_)
                clear hpp
                have hpp := hpq
                clear hpq
                obtain ⟨-, hu9, hw_49⟩ := hw_49
                have hu9 := hu9.symm
                subst hu9
                exact c_iret (v := r_47) hx hb hr hK hP hD hS hC hh hpp ⟨aw_45t, (Or.inr (Or.inr (Or.inr ⟨⟨fun h => c_5 (hw_3.trans h), fun h => c_10 (hw_8.trans h), fun h => c_15 (hw_13.trans h), fun h => c_20 (hw_18.trans h)⟩, ⟨hw_23.symm.trans c_25, hw_28.symm.trans c_30⟩, (by rw [← hw_33]; exact c_35), hw_49, ⟨ti2, ((aw_45.2.1 0 (lt35 (by decide)) (by decide)).1.trans (by rw [hap, uT_0])), ((aw_45.2.1 1 (lt35 (by decide)) (by decide)).1.trans (by rw [hap, uT_1])), ((aw_45.2.1 2 (lt35 (by decide)) (by decide)).1.trans (by rw [hap, uT_2])), ((aw_45.2.1 3 (lt35 (by decide)) (by decide)).1.trans (by rw [hap, uT_3])), ((aw_45.2.1 4 (lt35 (by decide)) (by decide)).1.trans (by rw [hap, uT_4])), ((aw_45.2.1 5 (lt35 (by decide)) (by decide)).1.trans (by rw [hap, uT_5])), fg_46⟩, fg_46s, fg_4613, fg_4614⟩)))⟩ dX7_field_113 hlocks
              · skip
                refine lv_bipush (v := (-2)) hx hb dX7_field_85 (by decide) ?_
                exact c_iret (v := (-2)) hx hb hr hK hP hD hS hC hh hpp ⟨AW.rf, (Or.inr (Or.inr (Or.inl ⟨⟨fun h => c_5 (hw_3.trans h), fun h => c_10 (hw_8.trans h), fun h => c_15 (hw_13.trans h), fun h => c_20 (hw_18.trans h)⟩, ⟨hw_23.symm.trans c_25, hw_28.symm.trans c_30⟩, fun h => c_35 (by rw [hw_33]; exact h), rfl, rfl⟩)))⟩ dX7_field_87 hlocks
            · skip
              refine lv_bipush (v := (-4)) hx hb dX7_field_69 (by decide) ?_
              exact c_iret (v := (-4)) hx hb hr hK hP hD hS hC hh hpp ⟨AW.rf, (Or.inr (Or.inl ⟨⟨fun h => c_5 (hw_3.trans h), fun h => c_10 (hw_8.trans h), fun h => c_15 (hw_13.trans h), fun h => c_20 (hw_18.trans h)⟩, Or.inr (fun h => c_30 (hw_28.trans h)), rfl, rfl⟩))⟩ dX7_field_71 hlocks
        · skip
          refine lv_iconst (v := (-1)) hx hb dX7_field_43 (by decide) ?_
          exact c_iret (v := (-1)) hx hb hr hK hP hD hS hC hh hpp ⟨AW.rf, (Or.inl ⟨rfl, rfl, fun h => h.2.2.2 (hw_18.symm.trans c_20)⟩)⟩ dX7_field_44 hlocks
      · skip
        refine lv_iconst (v := (-1)) hx hb dX7_field_29 (by decide) ?_
        exact c_iret (v := (-1)) hx hb hr hK hP hD hS hC hh hpp ⟨AW.rf, (Or.inl ⟨rfl, rfl, fun h => h.2.2.1 (hw_13.symm.trans c_15)⟩)⟩ dX7_field_30 hlocks

