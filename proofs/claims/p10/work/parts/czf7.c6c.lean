set_option maxHeartbeats 4000000 in
set_option maxRecDepth 100000 in
/-- close -/
theorem xl_close_6 (l : Launch) (G : cG) (S : cS) (T : Nat) (V : Nat) (VP : Nat) (X : Nat) (Y : Nat) (Z : Nat) (z : aS) (st9 : List (Nat × Nat × Nat)) (L9 : List Int32) (t9 : Nat) (y9 : Nat) (p9 : Nat) (hC : CL S) (hY : TY S T V VP X Y Z) (hz : KT S z) (hTK : TKx z S 400 ((t9, y9, p9) :: st9) L9) (Hs : Heap) : Met l yX2_close (wC yX2_close cX2_close 3 none) (cRm S 2 42) (cPc G S Hs [.ref (ga G 3)]) (cQv G S Hs (fun u => AW [19, 20, 21, 22] [] S u ∧ (TKx z u 400 st9 L9))) (CC - PT S) (12 * (CC - PT S)) (cA G S Hs.size) := by
  refine Met.ofW (cc := cX2_close) (maxL := 3) (ret := none) (by decide) rfl ?_
  intro p e s m args below meth c s₁ B hml hv
  obtain ⟨rfl, hsz, hP, hK, hD0, -⟩ := hv
  have hx := B.exec
  have hb := B.bytes
  have hr := B.returns
  have htu : ∀ w ∈ CU, w.before _ s = true := fun w h => atoms_spec (ws := (wC yX2_close cX2_close 3 none)) B.pre w (List.mem_cons_of_mem _ h)
  have hown : s.vm.findClass RX2 = some m.cls := findClass_of_methodNamed B.named
  have hlocks := B.notSynchronized
  subst hsz
  have hD : cD (cA G S s.heap.size) G S := cD_self hD0
  have hl := lv_entry ([.ref (ga G 3)]) (n := 3) (Nat.le_of_ble_eq_true rfl)
  rw [lg_entry_eq]
  generalize (lg_sl ([.ref (ga G 3)]) ++ List.replicate (3 - (lg_sl ([.ref (ga G 3)])).length) Slot.unset).toArray = ls at hl ⊢
  have hl : lv_has ls 3 [(0, .ref (ga G 3))] := hl
  obtain ⟨H, hHe⟩ : ∃ H : Heap, H = s.heap := ⟨_, rfl⟩
  rw [← hHe] at hP
  have hS : va_S (cA G S s.heap.size) s.heap H [] := by rw [hHe]; exact va_S.rf
  have hh : HS S S := HS.rf
  have hpp : PT S ≤ PT S := Nat.le_refl _
  have hB9 := hC.1
  refine W.heq hHe ?_
  refine c_ent (S := S) ?_
  obtain ⟨⟨h19, h20, h21⟩, hsg, hcap, hos, hst, hsv, hso⟩ := id hTK
  obtain ⟨tT9, tV9, tB9, tX9⟩ := hY.2.1
  have hn6 := hz.1.2.2.2.2.2.2.2.1
  have hv6 := hz.1.2.2.2.2.2.2.2.2.1
  have h19 : kK S 19 = st9.length + 1 := h19
  have h20 : kK S 20 = st9.length + 1 := h20
  have h21 : kK S 21 = st9.length + 1 := h21
  have hos : st9.length + 1 ≤ L9.length := hos
  have tp1 : rget (kF S 19) (kK S 19) (nI st9.length) = nI t9 := (TKx.top hTK).1
  have tp2 : rget (kF S 20) (kK S 20) (nI st9.length) = nI y9 := (TKx.top hTK).2.1
  have tp3 : rget (kF S 21) (kK S 21) (nI st9.length) = nI p9 := (TKx.top hTK).2.2
  have ht : t9 < nT z := hsv.1.1
  have hy2 : y9 < 2 := hsv.1.2.1
  have hn0 : srt z t9 ≠ 0 := hsv.1.2.2.1
  have hk4 := hz.ks4 ht
  have hk2 := hz.k2le ht hn0
  refine lv_aload_n hx hb dX2_close_0 rfl (lv_at hl 0 rfl) ?_
  refine va_get (D := gD G) (ci := 2) (v := .ref (kH S 19)) (C := RX2) (T := TX2) (N := 6) hx hb htu cu_in2 hown hK hP 3 cw_3 rfl 1 (by decide) (htu _ C_122) (fun _ h9 => h9) rfl dX2_close_1 ?_
  refine va_get (D := gD G) (ci := 0) (v := .int (nI (st9.length + 1))) (C := RX0) (T := TX0) (N := 2) hx hb htu cu_in0 hown hK hP (2 * 19 + 13) (c_hd rfl (cw_row (lt35 (by decide)))) rfl 1 (by decide) (htu _ C_450) (fun _ h9 => h9) (m_v (congrArg nI h19)) dX2_close_4 ?_
  refine lv_iconst (v := 1) hx hb dX2_close_7 (by decide) ?_
  refine lv_isub hx hb dX2_close_8 ?_
  refine m_top (y := nI (st9.length)) (nI_pred _) ?_
  refine lv_istore_n (lv' := [(1, .int (nI (st9.length))), (0, .ref (ga G 3))]) hx hb dX2_close_9 rfl hl (by decide) rfl (fun ls hl => ?_)
  refine lv_aload_n hx hb dX2_close_10 rfl (lv_at hl 1 rfl) ?_
  refine va_get (D := gD G) (ci := 2) (v := .ref (kH S 19)) (C := RX2) (T := TX2) (N := 6) hx hb htu cu_in2 hown hK hP 3 cw_3 rfl 1 (by decide) (htu _ C_122) (fun _ h9 => h9) rfl dX2_close_11 ?_
  refine lv_iload_n hx hb dX2_close_14 rfl (lv_at hl 0 rfl) ?_
  have hC0 := hC
  refine c_ci (c_runV (As := [.int (nI (st9.length))]) (rest := []) (q0 := (2 * 19 + 13)) (ci := 0) ⟨hx, hb, hml, hown, htu⟩ (c_getA l G S 19 (lt35 (by decide)) hC (kH S 19) rfl (nI (st9.length)) H) (cwV 1 htu hU_X2_80 rfl rfl rfl (by decide +kernel) ⟨Nat.le_of_ble_eq_true rfl, Nat.le_of_ble_eq_true rfl⟩) hP hK hD hC hpp (c_hd rfl (cw_row (lt35 (by decide)))) rfl rfl hl.1 rfl (lv_room (Nat.le_of_ble_eq_true rfl)) dX2_close_15) hS hD hh hpp (fun r_1 S_2 H locs hw_3 hP hD hS hC hh hs_4 hpq => ?_)
  clear hpp
  have hpp := hpq
  clear hpq
  obtain ⟨hu9, hw_3⟩ := hw_3
  have hu9 := hu9.symm
  subst hu9
  obtain rfl : r_1 = nI t9 := hw_3.trans tp1
  refine lv_istore_n (lv' := [(2, .int (nI t9)), (1, .int (nI (st9.length))), (0, .ref (ga G 3))]) hx hb dX2_close_18 rfl hl (by decide) rfl (fun ls hl => ?_)
  refine lv_aload_n hx hb dX2_close_19 rfl (lv_at hl 2 rfl) ?_
  refine va_get (D := gD G) (ci := 2) (v := .ref (ga G 2)) (C := RX2) (T := TX2) (N := 6) hx hb htu cu_in2 hown hK hP 3 cw_3 rfl 0 (by decide) (htu _ C_128) (fun _ h9 => h9) rfl dX2_close_20 ?_
  refine lv_iload_n hx hb dX2_close_23 rfl (lv_at hl 0 rfl) ?_
  have hC0 := hC
  refine c_ci (c_runV (As := [.int (nI t9)]) (rest := []) (q0 := 2) (ci := 4) ⟨hx, hb, hml, hown, htu⟩ (y_sortOf l G S (nI t9) hC  H) (cwV 1 htu hU_X2_65 rfl rfl rfl (by decide +kernel) ⟨Nat.le_of_ble_eq_true rfl, Nat.le_of_ble_eq_true rfl⟩) hP hK hD hC hpp cw_2 rfl rfl hl.1 rfl (lv_room (Nat.le_of_ble_eq_true rfl)) dX2_close_24) hS hD hh hpp (fun r_5 S_6 H locs hw_7 hP hD hS hC hh hs_8 hpq => ?_)
  clear hpp
  have hpp := hpq
  clear hpq
  obtain ⟨-, hu9, hw_7⟩ := hw_7
  have hu9 := hu9.symm
  subst hu9
  obtain rfl : r_5 = nI (ks z t9) := hw_7.trans (hz.rs ht)
  refine lv_iconst (v := 4) hx hb dX2_close_27 (by decide) ?_
  refine lv_icmp_ne (tgt := 59) hx hb dX2_close_28 (by decide) (fun c_9 => ?_) (fun c_9 => ?_)
  · skip
    have nc_9 : ¬ ks z t9 = 4 := fun h9 => c_9 ((nI_eq (a := ks z t9) (b := 4) (by omega) (by omega)).mpr h9)
    have hs3 : srt z t9 ≠ 3 := fun h => nc_9 ((hz.e3 ht).mpr h)
    refine lv_aload_n hx hb dX2_close_59 rfl (lv_at hl 2 rfl) ?_
    refine va_get (D := gD G) (ci := 2) (v := .ref (kH S 19)) (C := RX2) (T := TX2) (N := 6) hx hb htu cu_in2 hown hK hP 3 cw_3 rfl 1 (by decide) (htu _ C_122) (fun _ h9 => h9) rfl dX2_close_60 ?_
    refine lv_iload_n hx hb dX2_close_63 rfl (lv_at hl 1 rfl) ?_
    have hC0 := hC
    refine c_cv (c_runV (As := [.int (nI (st9.length))]) (rest := []) (q0 := (2 * 19 + 13)) (ci := 0) ⟨hx, hb, hml, hown, htu⟩ (c_cutA l G S 19 (lt35 (by decide)) hC (kH S 19) rfl (nI (st9.length)) H) (cwV 1 htu hU_X2_114 rfl rfl rfl (by decide +kernel) ⟨Nat.le_of_ble_eq_true rfl, Nat.le_of_ble_eq_true rfl⟩) hP hK hD hC hpp (c_hd rfl (cw_row (lt35 (by decide)))) rfl rfl hl.1 rfl (lv_room (Nat.le_of_ble_eq_true rfl)) dX2_close_64) hS hD hh hpp (fun S_11 H locs hw_12 hP hD hS hC hh hs_13 hpq => ?_)
    clear hpp
    have hpp := hpq
    clear hpq
    try dsimp only at hw_12
    have aw_14 : AW [19] [] S S_11 := (by rw [hw_12]; exact AW.u (by decide))
    have aw_14t : AW [19, 20, 21, 22] [] S S_11 := AW.rf.tr (aw_14.mono (by decide) (by decide))
    have kk_15 : kK S_11 20 = st9.length + 1 := (aw_14.2.1 20 (lt35 (by decide)) (by decide)).2.trans h20
    have kk_16 : kK S_11 21 = st9.length + 1 := (aw_14.2.1 21 (lt35 (by decide)) (by decide)).2.trans h21
    have ii_17 : S_11.1 200 = nI (L9.length) := (aw_14.1 200 (by decide)).trans hsg.1
    have ty_18 := TY.aw hY aw_14 (by decide)
    have kk_19 : kK S_11 19 = st9.length := by rw [hw_12]; exact uR_K.trans (rcut_le2 (by rw [h19]; omega) (by rw [h19]; omega))
    refine lv_aload_n hx hb dX2_close_67 rfl (lv_at hl 2 rfl) ?_
    refine va_get (D := gD G) (ci := 2) (v := .ref (kH S 20)) (C := RX2) (T := TX2) (N := 6) hx hb htu cu_in2 hown hK hP 3 cw_3 rfl 2 (by decide) (htu _ C_123) (fun _ h9 => h9) (c_hv (hh.2 20 (lt35 (by decide)))) dX2_close_68 ?_
    refine lv_iload_n hx hb dX2_close_71 rfl (lv_at hl 1 rfl) ?_
    have hC0 := hC
    refine c_cv (c_runV (As := [.int (nI (st9.length))]) (rest := []) (q0 := (2 * 20 + 13)) (ci := 0) ⟨hx, hb, hml, hown, htu⟩ (c_cutA l G S_11 20 (lt35 (by decide)) hC (kH S 20) (hh.2 20 (lt35 (by decide))) (nI (st9.length)) H) (cwV 1 htu hU_X2_114 rfl rfl rfl (by decide +kernel) ⟨Nat.le_of_ble_eq_true rfl, Nat.le_of_ble_eq_true rfl⟩) hP hK hD hC hpp (c_hd (hh.2 20 (lt35 (by decide))) (cw_row (lt35 (by decide)))) rfl rfl hl.1 rfl (lv_room (Nat.le_of_ble_eq_true rfl)) dX2_close_72) hS hD hh hpp (fun S_21 H locs hw_22 hP hD hS hC hh hs_23 hpq => ?_)
    clear hpp
    have hpp := hpq
    clear hpq
    try dsimp only at hw_22
    have aw_24 : AW [20] [] S_11 S_21 := (by rw [hw_22]; exact AW.u (by decide))
    have aw_24t : AW [19, 20, 21, 22] [] S S_21 := aw_14t.tr (aw_24.mono (by decide) (by decide))
    have kk_25 : kK S_21 21 = st9.length + 1 := (aw_24.2.1 21 (lt35 (by decide)) (by decide)).2.trans kk_16
    have kk_26 : kK S_21 19 = st9.length := (aw_24.2.1 19 (lt35 (by decide)) (by decide)).2.trans kk_19
    have ii_27 : S_21.1 200 = nI (L9.length) := (aw_24.1 200 (by decide)).trans ii_17
    have ty_28 := TY.aw ty_18 aw_24 (by decide)
    have kk_29 : kK S_21 20 = st9.length := by rw [hw_22]; exact uR_K.trans (rcut_le2 (by rw [kk_15]; omega) (by rw [kk_15]; omega))
    refine lv_aload_n hx hb dX2_close_75 rfl (lv_at hl 2 rfl) ?_
    refine va_get (D := gD G) (ci := 2) (v := .ref (kH S 21)) (C := RX2) (T := TX2) (N := 6) hx hb htu cu_in2 hown hK hP 3 cw_3 rfl 3 (by decide) (htu _ C_124) (fun _ h9 => h9) (c_hv (hh.2 21 (lt35 (by decide)))) dX2_close_76 ?_
    refine lv_iload_n hx hb dX2_close_79 rfl (lv_at hl 1 rfl) ?_
    have hC0 := hC
    refine c_cv (c_runV (As := [.int (nI (st9.length))]) (rest := []) (q0 := (2 * 21 + 13)) (ci := 0) ⟨hx, hb, hml, hown, htu⟩ (c_cutA l G S_21 21 (lt35 (by decide)) hC (kH S 21) (hh.2 21 (lt35 (by decide))) (nI (st9.length)) H) (cwV 1 htu hU_X2_114 rfl rfl rfl (by decide +kernel) ⟨Nat.le_of_ble_eq_true rfl, Nat.le_of_ble_eq_true rfl⟩) hP hK hD hC hpp (c_hd (hh.2 21 (lt35 (by decide))) (cw_row (lt35 (by decide)))) rfl rfl hl.1 rfl (lv_room (Nat.le_of_ble_eq_true rfl)) dX2_close_80) hS hD hh hpp (fun S_31 H locs hw_32 hP hD hS hC hh hs_33 hpq => ?_)
    clear hpp
    have hpp := hpq
    clear hpq
    try dsimp only at hw_32
    have aw_34 : AW [21] [] S_21 S_31 := (by rw [hw_32]; exact AW.u (by decide))
    have aw_34t : AW [19, 20, 21, 22] [] S S_31 := aw_24t.tr (aw_34.mono (by decide) (by decide))
    have kk_35 : kK S_31 19 = st9.length := (aw_34.2.1 19 (lt35 (by decide)) (by decide)).2.trans kk_26
    have kk_36 : kK S_31 20 = st9.length := (aw_34.2.1 20 (lt35 (by decide)) (by decide)).2.trans kk_29
    have ii_37 : S_31.1 200 = nI (L9.length) := (aw_34.1 200 (by decide)).trans ii_27
    have ty_38 := TY.aw ty_28 aw_34 (by decide)
    have kk_39 : kK S_31 21 = st9.length := by rw [hw_32]; exact uR_K.trans (rcut_le2 (by rw [kk_25]; omega) (by rw [kk_25]; omega))
    have f19_ : kF S_31 19 = kF S 19 := by rw [hw_32, uR_Fo (by decide), hw_22, uR_Fo (by decide), hw_12, uR_F]
    have f20_ : kF S_31 20 = kF S 20 := by rw [hw_32, uR_Fo (by decide), hw_22, uR_F, hw_12, uR_Fo (by decide)]
    have f21_ : kF S_31 21 = kF S 21 := by rw [hw_32, uR_F, hw_22, uR_Fo (by decide), hw_12, uR_Fo (by decide)]
    exact c_vret hx hb hr hK hP hD hS hC hh hpp ⟨aw_34t, (TKx.pop hTK ⟨kk_35, kk_36, kk_39⟩ ⟨f19_, f20_, f21_⟩ (hsg.aw aw_34t (by decide) (by decide) (by intro z; cases z)) ⟨by rw [hw_32, uR_Ko (by decide), hw_22, uR_Ko (by decide), hw_12, uR_Ko (by decide)], Or.inl ⟨hs3, by rw [hw_32, uR_Fo (by decide), hw_22, uR_Fo (by decide), hw_12, uR_Fo (by decide)]⟩⟩)⟩ dX2_close_83 hlocks
  · skip
    have nc_9 : ks z t9 = 4 := (nI_eq (a := ks z t9) (b := 4) (by omega) (by omega)).mp c_9
    have hs3 : srt z t9 = 3 := (hz.e3 ht).mp nc_9
    obtain ⟨v1_, v2_, v3_⟩ := hz.f3 ht hs3
    refine lv_aload_n hx hb dX2_close_31 rfl (lv_at hl 2 rfl) ?_
    refine va_get (D := gD G) (ci := 2) (v := .ref (kH S 22)) (C := RX2) (T := TX2) (N := 6) hx hb htu cu_in2 hown hK hP 3 cw_3 rfl 4 (by decide) (htu _ C_125) (fun _ h9 => h9) rfl dX2_close_32 ?_
    refine lv_iconst (v := 2) hx hb dX2_close_35 (by decide) ?_
    refine lv_aload_n hx hb dX2_close_36 rfl (lv_at hl 2 rfl) ?_
    refine va_get (D := gD G) (ci := 2) (v := .ref (ga G 2)) (C := RX2) (T := TX2) (N := 6) hx hb htu cu_in2 hown hK hP 3 cw_3 rfl 0 (by decide) (htu _ C_128) (fun _ h9 => h9) rfl dX2_close_37 ?_
    refine lv_iload_n hx hb dX2_close_40 rfl (lv_at hl 0 rfl) ?_
    have hC0 := hC
    refine c_ci (c_runV (As := [.int (nI t9)]) (rest := [.int 2, .ref (kH S 22)]) (q0 := 2) (ci := 4) ⟨hx, hb, hml, hown, htu⟩ (x_numberOf l G S (nI t9) hC  H) (cwV 1 htu hU_X2_73 rfl rfl rfl (by decide +kernel) ⟨Nat.le_of_ble_eq_true rfl, Nat.le_of_ble_eq_true rfl⟩) hP hK hD hC hpp cw_2 rfl rfl hl.1 rfl (lv_room (Nat.le_of_ble_eq_true rfl)) dX2_close_41) hS hD hh hpp (fun r_40 S_41 H locs hw_42 hP hD hS hC hh hs_43 hpq => ?_)
    clear hpp
    have hpp := hpq
    clear hpq
    obtain ⟨-, hu9, hw_42⟩ := hw_42
    have hu9 := hu9.symm
    subst hu9
    obtain rfl : r_40 = nI (one z t9) := (hw_42 ((hz.is ht (k := 4) (by decide) (by decide)).mpr (by omega))).trans v1_
    refine lv_imul hx hb dX2_close_44 ?_
    refine m_top (y := nI (2 * (one z t9))) (pk_mul 2 (one z t9)) ?_
    refine lv_aload_n hx hb dX2_close_45 rfl (lv_at hl 2 rfl) ?_
    refine va_get (D := gD G) (ci := 2) (v := .ref (kH S 20)) (C := RX2) (T := TX2) (N := 6) hx hb htu cu_in2 hown hK hP 3 cw_3 rfl 2 (by decide) (htu _ C_123) (fun _ h9 => h9) rfl dX2_close_46 ?_
    refine lv_iload_n hx hb dX2_close_49 rfl (lv_at hl 1 rfl) ?_
    have hC0 := hC
    refine c_ci (c_runV (As := [.int (nI (st9.length))]) (rest := [.int (nI (2 * (one z t9))), .ref (kH S 22)]) (q0 := (2 * 20 + 13)) (ci := 0) ⟨hx, hb, hml, hown, htu⟩ (c_getA l G S 20 (lt35 (by decide)) hC (kH S 20) rfl (nI (st9.length)) H) (cwV 1 htu hU_X2_80 rfl rfl rfl (by decide +kernel) ⟨Nat.le_of_ble_eq_true rfl, Nat.le_of_ble_eq_true rfl⟩) hP hK hD hC hpp (c_hd rfl (cw_row (lt35 (by decide)))) rfl rfl hl.1 rfl (lv_room (Nat.le_of_ble_eq_true rfl)) dX2_close_50) hS hD hh hpp (fun r_44 S_45 H locs hw_46 hP hD hS hC hh hs_47 hpq => ?_)
    clear hpp
    have hpp := hpq
    clear hpq
    obtain ⟨hu9, hw_46⟩ := hw_46
    have hu9 := hu9.symm
    subst hu9
    obtain rfl : r_44 = nI y9 := hw_46.trans tp2
    refine lv_iadd hx hb dX2_close_53 ?_
    refine m_top (y := nI (2 * (one z t9) + y9)) (nI_add (2 * (one z t9)) y9) ?_
    refine lv_bipush (v := (-9)) hx hb dX2_close_54 (by decide) ?_
    have hC0 := hC
    refine c_cv (c_runV (As := [.int (nI (2 * (one z t9) + y9)), .int ((-9))]) (rest := []) (q0 := (2 * 22 + 13)) (ci := 0) ⟨hx, hb, hml, hown, htu⟩ (c_setA l G S 22 (lt35 (by decide)) hC (kH S 22) rfl (nI (2 * (one z t9) + y9)) ((-9)) H) (cwV 2 htu hU_X2_86 rfl rfl rfl (by decide +kernel) ⟨Nat.le_of_ble_eq_true rfl, Nat.le_of_ble_eq_true rfl⟩) hP hK hD hC hpp (c_hd rfl (cw_row (lt35 (by decide)))) rfl rfl hl.1 rfl (lv_room (Nat.le_of_ble_eq_true rfl)) dX2_close_56) hS hD hh hpp (fun S_49 H locs hw_50 hP hD hS hC hh hs_51 hpq => ?_)
    clear hpp
    have hpp := hpq
    clear hpq
    try dsimp only at hw_50
    have aw_52 : AW [22] [] S S_49 := (by rw [hw_50]; exact AW.u (by decide))
    have aw_52t : AW [19, 20, 21, 22] [] S S_49 := AW.rf.tr (aw_52.mono (by decide) (by decide))
    have kk_53 : kK S_49 19 = st9.length + 1 := (aw_52.2.1 19 (lt35 (by decide)) (by decide)).2.trans h19
    have kk_54 : kK S_49 20 = st9.length + 1 := (aw_52.2.1 20 (lt35 (by decide)) (by decide)).2.trans h20
    have kk_55 : kK S_49 21 = st9.length + 1 := (aw_52.2.1 21 (lt35 (by decide)) (by decide)).2.trans h21
    have ii_56 : S_49.1 200 = nI (L9.length) := (aw_52.1 200 (by decide)).trans hsg.1
    have ty_57 := TY.aw hY aw_52 (by decide)
    refine lv_aload_n hx hb dX2_close_59 rfl (lv_at hl 2 rfl) ?_
    refine va_get (D := gD G) (ci := 2) (v := .ref (kH S 19)) (C := RX2) (T := TX2) (N := 6) hx hb htu cu_in2 hown hK hP 3 cw_3 rfl 1 (by decide) (htu _ C_122) (fun _ h9 => h9) (c_hv (hh.2 19 (lt35 (by decide)))) dX2_close_60 ?_
    refine lv_iload_n hx hb dX2_close_63 rfl (lv_at hl 1 rfl) ?_
    have hC0 := hC
    refine c_cv (c_runV (As := [.int (nI (st9.length))]) (rest := []) (q0 := (2 * 19 + 13)) (ci := 0) ⟨hx, hb, hml, hown, htu⟩ (c_cutA l G S_49 19 (lt35 (by decide)) hC (kH S 19) (hh.2 19 (lt35 (by decide))) (nI (st9.length)) H) (cwV 1 htu hU_X2_114 rfl rfl rfl (by decide +kernel) ⟨Nat.le_of_ble_eq_true rfl, Nat.le_of_ble_eq_true rfl⟩) hP hK hD hC hpp (c_hd (hh.2 19 (lt35 (by decide))) (cw_row (lt35 (by decide)))) rfl rfl hl.1 rfl (lv_room (Nat.le_of_ble_eq_true rfl)) dX2_close_64) hS hD hh hpp (fun S_59 H locs hw_60 hP hD hS hC hh hs_61 hpq => ?_)
    clear hpp
    have hpp := hpq
    clear hpq
    try dsimp only at hw_60
    have aw_62 : AW [19] [] S_49 S_59 := (by rw [hw_60]; exact AW.u (by decide))
    have aw_62t : AW [19, 20, 21, 22] [] S S_59 := aw_52t.tr (aw_62.mono (by decide) (by decide))
    have kk_63 : kK S_59 20 = st9.length + 1 := (aw_62.2.1 20 (lt35 (by decide)) (by decide)).2.trans kk_54
    have kk_64 : kK S_59 21 = st9.length + 1 := (aw_62.2.1 21 (lt35 (by decide)) (by decide)).2.trans kk_55
    have ii_65 : S_59.1 200 = nI (L9.length) := (aw_62.1 200 (by decide)).trans ii_56
    have ty_66 := TY.aw ty_57 aw_62 (by decide)
    have kk_67 : kK S_59 19 = st9.length := by rw [hw_60]; exact uR_K.trans (rcut_le2 (by rw [kk_53]; omega) (by rw [kk_53]; omega))
    refine lv_aload_n hx hb dX2_close_67 rfl (lv_at hl 2 rfl) ?_
    refine va_get (D := gD G) (ci := 2) (v := .ref (kH S 20)) (C := RX2) (T := TX2) (N := 6) hx hb htu cu_in2 hown hK hP 3 cw_3 rfl 2 (by decide) (htu _ C_123) (fun _ h9 => h9) (c_hv (hh.2 20 (lt35 (by decide)))) dX2_close_68 ?_
    refine lv_iload_n hx hb dX2_close_71 rfl (lv_at hl 1 rfl) ?_
    have hC0 := hC
    refine c_cv (c_runV (As := [.int (nI (st9.length))]) (rest := []) (q0 := (2 * 20 + 13)) (ci := 0) ⟨hx, hb, hml, hown, htu⟩ (c_cutA l G S_59 20 (lt35 (by decide)) hC (kH S 20) (hh.2 20 (lt35 (by decide))) (nI (st9.length)) H) (cwV 1 htu hU_X2_114 rfl rfl rfl (by decide +kernel) ⟨Nat.le_of_ble_eq_true rfl, Nat.le_of_ble_eq_true rfl⟩) hP hK hD hC hpp (c_hd (hh.2 20 (lt35 (by decide))) (cw_row (lt35 (by decide)))) rfl rfl hl.1 rfl (lv_room (Nat.le_of_ble_eq_true rfl)) dX2_close_72) hS hD hh hpp (fun S_69 H locs hw_70 hP hD hS hC hh hs_71 hpq => ?_)
    clear hpp
    have hpp := hpq
    clear hpq
    try dsimp only at hw_70
    have aw_72 : AW [20] [] S_59 S_69 := (by rw [hw_70]; exact AW.u (by decide))
    have aw_72t : AW [19, 20, 21, 22] [] S S_69 := aw_62t.tr (aw_72.mono (by decide) (by decide))
    have kk_73 : kK S_69 21 = st9.length + 1 := (aw_72.2.1 21 (lt35 (by decide)) (by decide)).2.trans kk_64
    have kk_74 : kK S_69 19 = st9.length := (aw_72.2.1 19 (lt35 (by decide)) (by decide)).2.trans kk_67
    have ii_75 : S_69.1 200 = nI (L9.length) := (aw_72.1 200 (by decide)).trans ii_65
    have ty_76 := TY.aw ty_66 aw_72 (by decide)
    have kk_77 : kK S_69 20 = st9.length := by rw [hw_70]; exact uR_K.trans (rcut_le2 (by rw [kk_63]; omega) (by rw [kk_63]; omega))
    refine lv_aload_n hx hb dX2_close_75 rfl (lv_at hl 2 rfl) ?_
    refine va_get (D := gD G) (ci := 2) (v := .ref (kH S 21)) (C := RX2) (T := TX2) (N := 6) hx hb htu cu_in2 hown hK hP 3 cw_3 rfl 3 (by decide) (htu _ C_124) (fun _ h9 => h9) (c_hv (hh.2 21 (lt35 (by decide)))) dX2_close_76 ?_
    refine lv_iload_n hx hb dX2_close_79 rfl (lv_at hl 1 rfl) ?_
    have hC0 := hC
    refine c_cv (c_runV (As := [.int (nI (st9.length))]) (rest := []) (q0 := (2 * 21 + 13)) (ci := 0) ⟨hx, hb, hml, hown, htu⟩ (c_cutA l G S_69 21 (lt35 (by decide)) hC (kH S 21) (hh.2 21 (lt35 (by decide))) (nI (st9.length)) H) (cwV 1 htu hU_X2_114 rfl rfl rfl (by decide +kernel) ⟨Nat.le_of_ble_eq_true rfl, Nat.le_of_ble_eq_true rfl⟩) hP hK hD hC hpp (c_hd (hh.2 21 (lt35 (by decide))) (cw_row (lt35 (by decide)))) rfl rfl hl.1 rfl (lv_room (Nat.le_of_ble_eq_true rfl)) dX2_close_80) hS hD hh hpp (fun S_79 H locs hw_80 hP hD hS hC hh hs_81 hpq => ?_)
    clear hpp
    have hpp := hpq
    clear hpq
    try dsimp only at hw_80
    have aw_82 : AW [21] [] S_69 S_79 := (by rw [hw_80]; exact AW.u (by decide))
    have aw_82t : AW [19, 20, 21, 22] [] S S_79 := aw_72t.tr (aw_82.mono (by decide) (by decide))
    have kk_83 : kK S_79 19 = st9.length := (aw_82.2.1 19 (lt35 (by decide)) (by decide)).2.trans kk_74
    have kk_84 : kK S_79 20 = st9.length := (aw_82.2.1 20 (lt35 (by decide)) (by decide)).2.trans kk_77
    have ii_85 : S_79.1 200 = nI (L9.length) := (aw_82.1 200 (by decide)).trans ii_75
    have ty_86 := TY.aw ty_76 aw_82 (by decide)
    have kk_87 : kK S_79 21 = st9.length := by rw [hw_80]; exact uR_K.trans (rcut_le2 (by rw [kk_73]; omega) (by rw [kk_73]; omega))
    have f19_ : kF S_79 19 = kF S 19 := by rw [hw_80, uR_Fo (by decide), hw_70, uR_Fo (by decide), hw_60, uR_F, hw_50, uR_Fo (by decide)]
    have f20_ : kF S_79 20 = kF S 20 := by rw [hw_80, uR_Fo (by decide), hw_70, uR_F, hw_60, uR_Fo (by decide), hw_50, uR_Fo (by decide)]
    have f21_ : kF S_79 21 = kF S 21 := by rw [hw_80, uR_F, hw_70, uR_Fo (by decide), hw_60, uR_Fo (by decide), hw_50, uR_Fo (by decide)]
    exact c_vret hx hb hr hK hP hD hS hC hh hpp ⟨aw_82t, (TKx.pop hTK ⟨kk_83, kk_84, kk_87⟩ ⟨f19_, f20_, f21_⟩ (hsg.aw aw_82t (by decide) (by decide) (by intro z; cases z)) ⟨by rw [hw_80, uR_Ko (by decide), hw_70, uR_Ko (by decide), hw_60, uR_Ko (by decide), hw_50, uR_K], Or.inr ⟨hs3, by rw [hw_80, uR_Fo (by decide), hw_70, uR_Fo (by decide), hw_60, uR_Fo (by decide), hw_50, uR_F]; exact rset_at (by rw [hso.1]; show 2 * one z t9 + y9 < 300; omega) (by rw [hso.1]; decide)⟩⟩)⟩ dX2_close_83 hlocks

