/-! ===== a new start: WHOLE and TRUTH alone ===== -/
def Z0 (z : aS) : Prop := nT z = 2 ∧ nV z = 0 ∧ (∀ t, t < 2 → srt z t = 0 ∧ lev z t = 0) ∧ z.2.2 = []
def S0 (u : cS) : Prop := (kF u 6 0 = 0 ∧ kF u 6 1 = 1) ∧ (kF u 7 0 = 0 ∧ kF u 7 1 = 0) ∧ (kF u 16 0 = -9 ∧ kF u 16 1 = -9)
theorem kt_start {u : cS} {z : aS} (hY : TY u 2 0 0 0 0 0) (h : S0 u) (hz : Z0 z) : KT u z ∧ KQ u z := by
  obtain ⟨⟨a1, a2, a3, a4, a5, a6, a7, a8, a9, a10, a11, a12⟩, -⟩ := hY
  obtain ⟨⟨b1, b2⟩, ⟨b3, b4⟩, b5, b6⟩ := h
  obtain ⟨c1, c2, c3, c4⟩ := hz
  have lt2 : ∀ t, t < nT z → t = 0 ∨ t = 1 := fun t ht => by omega
  refine ⟨⟨⟨by rw [c1]; exact a1, by rw [c1]; exact a2, by rw [c1]; exact a3, by rw [c1]; exact a4, by rw [c2]; exact a6, by rw [a7, a8], by rw [a7]; decide, by omega, by omega, by omega, by omega⟩, fun t ht => ?_, fun t ht h1 => ?_, fun t ht h1 => ?_, ⟨fun t ht h1 => ?_, fun v hv => by omega⟩, fun v hv => by omega⟩, by rw [c4]; exact a11, by rw [c4]; exact a12, by rw [c1]; exact a5, (fun q hq => by rw [c4] at hq; cases hq), fun t ht => ?_⟩
  · obtain ⟨d1, d2⟩ := c3 t (by omega)
    rw [d1, d2]
    unfold ks
    rw [d1, if_pos rfl]
    rcases lt2 t ht with rfl | rfl
    · exact ⟨b1, b3, by decide, fun _ => ⟨rfl, by decide⟩, by decide⟩
    · exact ⟨b2, b4, by decide, fun _ => ⟨rfl, by decide⟩, by decide⟩
  · have := (c3 t (by omega)).1
    omega
  · have := (c3 t (by omega)).1
    omega
  · have := (c3 t (by omega)).1
    omega
  · unfold ask1
    rw [c4]
    show kF u 16 t = -9
    rcases lt2 t ht with rfl | rfl
    · exact b5
    · exact b6
theorem z0_zS (q : Nat) : Z0 (zS q) := ⟨rfl, rfl, fun _ _ => ⟨rfl, rfl⟩, rfl⟩

set_option maxHeartbeats 4000000 in
set_option maxRecDepth 100000 in
/-- startAnew -/
theorem x_startAnewT (l : Launch) (G : cG) (S : cS) (hC : CL S) (Hs : Heap) : Met l yX4_startAnew (wC yX4_startAnew cX4_startAnew 1 none) (cRm S 4 128) (cPc G S Hs [.ref (ga G 2)]) (cQv G S Hs (fun u => AW [6, 7, 8, 9, 16, 14, 10, 11, 12, 13, 17, 18] [] S u ∧ (TY u 2 0 0 0 0 0 ∧ S0 u))) (CC - PT S) (12 * (CC - PT S)) (cA G S Hs.size) := by
  refine Met.ofW (cc := cX4_startAnew) (maxL := 1) (ret := none) (by decide) rfl ?_
  intro p e s m args below meth c s₁ B hml hv
  obtain ⟨rfl, hsz, hP, hK, hD0, -⟩ := hv
  have hx := B.exec
  have hb := B.bytes
  have hr := B.returns
  have htu : ∀ w ∈ CU, w.before _ s = true := fun w h => atoms_spec (ws := (wC yX4_startAnew cX4_startAnew 1 none)) B.pre w (List.mem_cons_of_mem _ h)
  have hown : s.vm.findClass RX4 = some m.cls := findClass_of_methodNamed B.named
  have hlocks := B.notSynchronized
  subst hsz
  have hD : cD (cA G S s.heap.size) G S := cD_self hD0
  have hl := lv_entry ([.ref (ga G 2)]) (n := 1) (Nat.le_of_ble_eq_true rfl)
  rw [lg_entry_eq]
  generalize (lg_sl ([.ref (ga G 2)]) ++ List.replicate (1 - (lg_sl ([.ref (ga G 2)])).length) Slot.unset).toArray = ls at hl ⊢
  have hl : lv_has ls 1 [(0, .ref (ga G 2))] := hl
  obtain ⟨H, hHe⟩ : ∃ H : Heap, H = s.heap := ⟨_, rfl⟩
  rw [← hHe] at hP
  have hS : va_S (cA G S s.heap.size) s.heap H [] := by rw [hHe]; exact va_S.rf
  have hh : HS S S := HS.rf
  have hpp : PT S ≤ PT S := Nat.le_refl _
  have hB9 := hC.1
  refine W.heq hHe ?_
  refine c_ent (S := S) ?_
  refine lv_aload_n hx hb dX4_startAnew_0 rfl (lv_at hl 0 rfl) ?_
  refine va_get (D := gD G) (ci := 4) (v := .ref (kH S 6)) (C := RX4) (T := TX4) (N := 14) hx hb htu cu_in4 hown hK hP 2 cw_2 rfl 0 (by decide) (htu _ C_66) (fun _ h9 => h9) rfl dX4_startAnew_1 ?_
  refine lv_iconst (v := 0) hx hb dX4_startAnew_4 (by decide) ?_
  have hC0 := hC
  refine c_cv (c_runV (As := [.int 0]) (rest := []) (q0 := (2 * 6 + 13)) (ci := 0) ⟨hx, hb, hml, hown, htu⟩ (c_cutA l G S 6 (lt35 (by decide)) hC (kH S 6) rfl 0 H) (cwV 1 htu hU_X4_61 rfl rfl rfl (by decide +kernel) ⟨Nat.le_of_ble_eq_true rfl, Nat.le_of_ble_eq_true rfl⟩) hP hK hD hC hpp (c_hd rfl (cw_row (lt35 (by decide)))) rfl rfl hl.1 rfl (lv_room (Nat.le_of_ble_eq_true rfl)) dX4_startAnew_5) hS hD hh hpp (fun S_2 H locs hw_3 hP hD hS hC hh hs_4 hpq => ?_)
  clear hpp
  have hpp := hpq
  clear hpq
  try dsimp only at hw_3
  have aw_5 : AW [6] [] S S_2 := (by rw [hw_3]; exact AW.u (by decide))
  have aw_5t : AW [6, 7, 8, 9, 16, 14, 10, 11, 12, 13, 17, 18] [] S S_2 := AW.rf.tr (aw_5.mono (by decide) (by decide))
  have kk_6 : kK S_2 6 = 0 := by rw [hw_3]; exact uR_K.trans (rcut_0 _ (by have := hC0.2 6 (lt35 (by decide)); have := lim_le 6; omega))
  refine lv_aload_n hx hb dX4_startAnew_8 rfl (lv_at hl 0 rfl) ?_
  refine va_get (D := gD G) (ci := 4) (v := .ref (kH S 7)) (C := RX4) (T := TX4) (N := 14) hx hb htu cu_in4 hown hK hP 2 cw_2 rfl 1 (by decide) (htu _ C_67) (fun _ h9 => h9) (c_hv (hh.2 7 (lt35 (by decide)))) dX4_startAnew_9 ?_
  refine lv_iconst (v := 0) hx hb dX4_startAnew_12 (by decide) ?_
  have hC0 := hC
  refine c_cv (c_runV (As := [.int 0]) (rest := []) (q0 := (2 * 7 + 13)) (ci := 0) ⟨hx, hb, hml, hown, htu⟩ (c_cutA l G S_2 7 (lt35 (by decide)) hC (kH S 7) (hh.2 7 (lt35 (by decide))) 0 H) (cwV 1 htu hU_X4_61 rfl rfl rfl (by decide +kernel) ⟨Nat.le_of_ble_eq_true rfl, Nat.le_of_ble_eq_true rfl⟩) hP hK hD hC hpp (c_hd (hh.2 7 (lt35 (by decide))) (cw_row (lt35 (by decide)))) rfl rfl hl.1 rfl (lv_room (Nat.le_of_ble_eq_true rfl)) dX4_startAnew_13) hS hD hh hpp (fun S_8 H locs hw_9 hP hD hS hC hh hs_10 hpq => ?_)
  clear hpp
  have hpp := hpq
  clear hpq
  try dsimp only at hw_9
  have aw_11 : AW [7] [] S_2 S_8 := (by rw [hw_9]; exact AW.u (by decide))
  have aw_11t : AW [6, 7, 8, 9, 16, 14, 10, 11, 12, 13, 17, 18] [] S S_8 := aw_5t.tr (aw_11.mono (by decide) (by decide))
  have kk_12 : kK S_8 6 = 0 := (aw_11.2.1 6 (lt35 (by decide)) (by decide)).2.trans kk_6
  have kk_13 : kK S_8 7 = 0 := by rw [hw_9]; exact uR_K.trans (rcut_0 _ (by have := hC0.2 7 (lt35 (by decide)); have := lim_le 7; omega))
  refine lv_aload_n hx hb dX4_startAnew_16 rfl (lv_at hl 0 rfl) ?_
  refine va_get (D := gD G) (ci := 4) (v := .ref (kH S 8)) (C := RX4) (T := TX4) (N := 14) hx hb htu cu_in4 hown hK hP 2 cw_2 rfl 2 (by decide) (htu _ C_68) (fun _ h9 => h9) (c_hv (hh.2 8 (lt35 (by decide)))) dX4_startAnew_17 ?_
  refine lv_iconst (v := 0) hx hb dX4_startAnew_20 (by decide) ?_
  have hC0 := hC
  refine c_cv (c_runV (As := [.int 0]) (rest := []) (q0 := (2 * 8 + 13)) (ci := 0) ⟨hx, hb, hml, hown, htu⟩ (c_cutA l G S_8 8 (lt35 (by decide)) hC (kH S 8) (hh.2 8 (lt35 (by decide))) 0 H) (cwV 1 htu hU_X4_61 rfl rfl rfl (by decide +kernel) ⟨Nat.le_of_ble_eq_true rfl, Nat.le_of_ble_eq_true rfl⟩) hP hK hD hC hpp (c_hd (hh.2 8 (lt35 (by decide))) (cw_row (lt35 (by decide)))) rfl rfl hl.1 rfl (lv_room (Nat.le_of_ble_eq_true rfl)) dX4_startAnew_21) hS hD hh hpp (fun S_15 H locs hw_16 hP hD hS hC hh hs_17 hpq => ?_)
  clear hpp
  have hpp := hpq
  clear hpq
  try dsimp only at hw_16
  have aw_18 : AW [8] [] S_8 S_15 := (by rw [hw_16]; exact AW.u (by decide))
  have aw_18t : AW [6, 7, 8, 9, 16, 14, 10, 11, 12, 13, 17, 18] [] S S_15 := aw_11t.tr (aw_18.mono (by decide) (by decide))
  have kk_19 : kK S_15 6 = 0 := (aw_18.2.1 6 (lt35 (by decide)) (by decide)).2.trans kk_12
  have kk_20 : kK S_15 7 = 0 := (aw_18.2.1 7 (lt35 (by decide)) (by decide)).2.trans kk_13
  have kk_21 : kK S_15 8 = 0 := by rw [hw_16]; exact uR_K.trans (rcut_0 _ (by have := hC0.2 8 (lt35 (by decide)); have := lim_le 8; omega))
  refine lv_aload_n hx hb dX4_startAnew_24 rfl (lv_at hl 0 rfl) ?_
  refine va_get (D := gD G) (ci := 4) (v := .ref (kH S 9)) (C := RX4) (T := TX4) (N := 14) hx hb htu cu_in4 hown hK hP 2 cw_2 rfl 3 (by decide) (htu _ C_69) (fun _ h9 => h9) (c_hv (hh.2 9 (lt35 (by decide)))) dX4_startAnew_25 ?_
  refine lv_iconst (v := 0) hx hb dX4_startAnew_28 (by decide) ?_
  have hC0 := hC
  refine c_cv (c_runV (As := [.int 0]) (rest := []) (q0 := (2 * 9 + 13)) (ci := 0) ⟨hx, hb, hml, hown, htu⟩ (c_cutA l G S_15 9 (lt35 (by decide)) hC (kH S 9) (hh.2 9 (lt35 (by decide))) 0 H) (cwV 1 htu hU_X4_61 rfl rfl rfl (by decide +kernel) ⟨Nat.le_of_ble_eq_true rfl, Nat.le_of_ble_eq_true rfl⟩) hP hK hD hC hpp (c_hd (hh.2 9 (lt35 (by decide))) (cw_row (lt35 (by decide)))) rfl rfl hl.1 rfl (lv_room (Nat.le_of_ble_eq_true rfl)) dX4_startAnew_29) hS hD hh hpp (fun S_23 H locs hw_24 hP hD hS hC hh hs_25 hpq => ?_)
  clear hpp
  have hpp := hpq
  clear hpq
  try dsimp only at hw_24
  have aw_26 : AW [9] [] S_15 S_23 := (by rw [hw_24]; exact AW.u (by decide))
  have aw_26t : AW [6, 7, 8, 9, 16, 14, 10, 11, 12, 13, 17, 18] [] S S_23 := aw_18t.tr (aw_26.mono (by decide) (by decide))
  have kk_27 : kK S_23 6 = 0 := (aw_26.2.1 6 (lt35 (by decide)) (by decide)).2.trans kk_19
  have kk_28 : kK S_23 7 = 0 := (aw_26.2.1 7 (lt35 (by decide)) (by decide)).2.trans kk_20
  have kk_29 : kK S_23 8 = 0 := (aw_26.2.1 8 (lt35 (by decide)) (by decide)).2.trans kk_21
  have kk_30 : kK S_23 9 = 0 := by rw [hw_24]; exact uR_K.trans (rcut_0 _ (by have := hC0.2 9 (lt35 (by decide)); have := lim_le 9; omega))
  refine lv_aload_n hx hb dX4_startAnew_32 rfl (lv_at hl 0 rfl) ?_
  refine va_get (D := gD G) (ci := 4) (v := .ref (kH S 10)) (C := RX4) (T := TX4) (N := 14) hx hb htu cu_in4 hown hK hP 2 cw_2 rfl 4 (by decide) (htu _ C_70) (fun _ h9 => h9) (c_hv (hh.2 10 (lt35 (by decide)))) dX4_startAnew_33 ?_
  refine lv_iconst (v := 0) hx hb dX4_startAnew_36 (by decide) ?_
  have hC0 := hC
  refine c_cv (c_runV (As := [.int 0]) (rest := []) (q0 := (2 * 10 + 13)) (ci := 0) ⟨hx, hb, hml, hown, htu⟩ (c_cutA l G S_23 10 (lt35 (by decide)) hC (kH S 10) (hh.2 10 (lt35 (by decide))) 0 H) (cwV 1 htu hU_X4_61 rfl rfl rfl (by decide +kernel) ⟨Nat.le_of_ble_eq_true rfl, Nat.le_of_ble_eq_true rfl⟩) hP hK hD hC hpp (c_hd (hh.2 10 (lt35 (by decide))) (cw_row (lt35 (by decide)))) rfl rfl hl.1 rfl (lv_room (Nat.le_of_ble_eq_true rfl)) dX4_startAnew_37) hS hD hh hpp (fun S_32 H locs hw_33 hP hD hS hC hh hs_34 hpq => ?_)
  clear hpp
  have hpp := hpq
  clear hpq
  try dsimp only at hw_33
  have aw_35 : AW [10] [] S_23 S_32 := (by rw [hw_33]; exact AW.u (by decide))
  have aw_35t : AW [6, 7, 8, 9, 16, 14, 10, 11, 12, 13, 17, 18] [] S S_32 := aw_26t.tr (aw_35.mono (by decide) (by decide))
  have kk_36 : kK S_32 6 = 0 := (aw_35.2.1 6 (lt35 (by decide)) (by decide)).2.trans kk_27
  have kk_37 : kK S_32 7 = 0 := (aw_35.2.1 7 (lt35 (by decide)) (by decide)).2.trans kk_28
  have kk_38 : kK S_32 8 = 0 := (aw_35.2.1 8 (lt35 (by decide)) (by decide)).2.trans kk_29
  have kk_39 : kK S_32 9 = 0 := (aw_35.2.1 9 (lt35 (by decide)) (by decide)).2.trans kk_30
  have kk_40 : kK S_32 10 = 0 := by rw [hw_33]; exact uR_K.trans (rcut_0 _ (by have := hC0.2 10 (lt35 (by decide)); have := lim_le 10; omega))
  refine lv_aload_n hx hb dX4_startAnew_40 rfl (lv_at hl 0 rfl) ?_
  refine va_get (D := gD G) (ci := 4) (v := .ref (kH S 11)) (C := RX4) (T := TX4) (N := 14) hx hb htu cu_in4 hown hK hP 2 cw_2 rfl 5 (by decide) (htu _ C_71) (fun _ h9 => h9) (c_hv (hh.2 11 (lt35 (by decide)))) dX4_startAnew_41 ?_
  refine lv_iconst (v := 0) hx hb dX4_startAnew_44 (by decide) ?_
  have hC0 := hC
  refine c_cv (c_runV (As := [.int 0]) (rest := []) (q0 := (2 * 11 + 13)) (ci := 0) ⟨hx, hb, hml, hown, htu⟩ (c_cutA l G S_32 11 (lt35 (by decide)) hC (kH S 11) (hh.2 11 (lt35 (by decide))) 0 H) (cwV 1 htu hU_X4_61 rfl rfl rfl (by decide +kernel) ⟨Nat.le_of_ble_eq_true rfl, Nat.le_of_ble_eq_true rfl⟩) hP hK hD hC hpp (c_hd (hh.2 11 (lt35 (by decide))) (cw_row (lt35 (by decide)))) rfl rfl hl.1 rfl (lv_room (Nat.le_of_ble_eq_true rfl)) dX4_startAnew_45) hS hD hh hpp (fun S_42 H locs hw_43 hP hD hS hC hh hs_44 hpq => ?_)
  clear hpp
  have hpp := hpq
  clear hpq
  try dsimp only at hw_43
  have aw_45 : AW [11] [] S_32 S_42 := (by rw [hw_43]; exact AW.u (by decide))
  have aw_45t : AW [6, 7, 8, 9, 16, 14, 10, 11, 12, 13, 17, 18] [] S S_42 := aw_35t.tr (aw_45.mono (by decide) (by decide))
  have kk_46 : kK S_42 6 = 0 := (aw_45.2.1 6 (lt35 (by decide)) (by decide)).2.trans kk_36
  have kk_47 : kK S_42 7 = 0 := (aw_45.2.1 7 (lt35 (by decide)) (by decide)).2.trans kk_37
  have kk_48 : kK S_42 8 = 0 := (aw_45.2.1 8 (lt35 (by decide)) (by decide)).2.trans kk_38
  have kk_49 : kK S_42 9 = 0 := (aw_45.2.1 9 (lt35 (by decide)) (by decide)).2.trans kk_39
  have kk_50 : kK S_42 10 = 0 := (aw_45.2.1 10 (lt35 (by decide)) (by decide)).2.trans kk_40
  have kk_51 : kK S_42 11 = 0 := by rw [hw_43]; exact uR_K.trans (rcut_0 _ (by have := hC0.2 11 (lt35 (by decide)); have := lim_le 11; omega))
  refine lv_aload_n hx hb dX4_startAnew_48 rfl (lv_at hl 0 rfl) ?_
  refine va_get (D := gD G) (ci := 4) (v := .ref (kH S 12)) (C := RX4) (T := TX4) (N := 14) hx hb htu cu_in4 hown hK hP 2 cw_2 rfl 6 (by decide) (htu _ C_72) (fun _ h9 => h9) (c_hv (hh.2 12 (lt35 (by decide)))) dX4_startAnew_49 ?_
  refine lv_iconst (v := 0) hx hb dX4_startAnew_52 (by decide) ?_
  have hC0 := hC
  refine c_cv (c_runV (As := [.int 0]) (rest := []) (q0 := (2 * 12 + 13)) (ci := 0) ⟨hx, hb, hml, hown, htu⟩ (c_cutA l G S_42 12 (lt35 (by decide)) hC (kH S 12) (hh.2 12 (lt35 (by decide))) 0 H) (cwV 1 htu hU_X4_61 rfl rfl rfl (by decide +kernel) ⟨Nat.le_of_ble_eq_true rfl, Nat.le_of_ble_eq_true rfl⟩) hP hK hD hC hpp (c_hd (hh.2 12 (lt35 (by decide))) (cw_row (lt35 (by decide)))) rfl rfl hl.1 rfl (lv_room (Nat.le_of_ble_eq_true rfl)) dX4_startAnew_53) hS hD hh hpp (fun S_53 H locs hw_54 hP hD hS hC hh hs_55 hpq => ?_)
  clear hpp
  have hpp := hpq
  clear hpq
  try dsimp only at hw_54
  have aw_56 : AW [12] [] S_42 S_53 := (by rw [hw_54]; exact AW.u (by decide))
  have aw_56t : AW [6, 7, 8, 9, 16, 14, 10, 11, 12, 13, 17, 18] [] S S_53 := aw_45t.tr (aw_56.mono (by decide) (by decide))
  have kk_57 : kK S_53 6 = 0 := (aw_56.2.1 6 (lt35 (by decide)) (by decide)).2.trans kk_46
  have kk_58 : kK S_53 7 = 0 := (aw_56.2.1 7 (lt35 (by decide)) (by decide)).2.trans kk_47
  have kk_59 : kK S_53 8 = 0 := (aw_56.2.1 8 (lt35 (by decide)) (by decide)).2.trans kk_48
  have kk_60 : kK S_53 9 = 0 := (aw_56.2.1 9 (lt35 (by decide)) (by decide)).2.trans kk_49
  have kk_61 : kK S_53 10 = 0 := (aw_56.2.1 10 (lt35 (by decide)) (by decide)).2.trans kk_50
  have kk_62 : kK S_53 11 = 0 := (aw_56.2.1 11 (lt35 (by decide)) (by decide)).2.trans kk_51
  have kk_63 : kK S_53 12 = 0 := by rw [hw_54]; exact uR_K.trans (rcut_0 _ (by have := hC0.2 12 (lt35 (by decide)); have := lim_le 12; omega))
  refine lv_aload_n hx hb dX4_startAnew_56 rfl (lv_at hl 0 rfl) ?_
  refine va_get (D := gD G) (ci := 4) (v := .ref (kH S 13)) (C := RX4) (T := TX4) (N := 14) hx hb htu cu_in4 hown hK hP 2 cw_2 rfl 7 (by decide) (htu _ C_73) (fun _ h9 => h9) (c_hv (hh.2 13 (lt35 (by decide)))) dX4_startAnew_57 ?_
  refine lv_iconst (v := 0) hx hb dX4_startAnew_60 (by decide) ?_
  have hC0 := hC
  refine c_cv (c_runV (As := [.int 0]) (rest := []) (q0 := (2 * 13 + 13)) (ci := 0) ⟨hx, hb, hml, hown, htu⟩ (c_cutA l G S_53 13 (lt35 (by decide)) hC (kH S 13) (hh.2 13 (lt35 (by decide))) 0 H) (cwV 1 htu hU_X4_61 rfl rfl rfl (by decide +kernel) ⟨Nat.le_of_ble_eq_true rfl, Nat.le_of_ble_eq_true rfl⟩) hP hK hD hC hpp (c_hd (hh.2 13 (lt35 (by decide))) (cw_row (lt35 (by decide)))) rfl rfl hl.1 rfl (lv_room (Nat.le_of_ble_eq_true rfl)) dX4_startAnew_61) hS hD hh hpp (fun S_65 H locs hw_66 hP hD hS hC hh hs_67 hpq => ?_)
  clear hpp
  have hpp := hpq
  clear hpq
  try dsimp only at hw_66
  have aw_68 : AW [13] [] S_53 S_65 := (by rw [hw_66]; exact AW.u (by decide))
  have aw_68t : AW [6, 7, 8, 9, 16, 14, 10, 11, 12, 13, 17, 18] [] S S_65 := aw_56t.tr (aw_68.mono (by decide) (by decide))
  have kk_69 : kK S_65 6 = 0 := (aw_68.2.1 6 (lt35 (by decide)) (by decide)).2.trans kk_57
  have kk_70 : kK S_65 7 = 0 := (aw_68.2.1 7 (lt35 (by decide)) (by decide)).2.trans kk_58
  have kk_71 : kK S_65 8 = 0 := (aw_68.2.1 8 (lt35 (by decide)) (by decide)).2.trans kk_59
  have kk_72 : kK S_65 9 = 0 := (aw_68.2.1 9 (lt35 (by decide)) (by decide)).2.trans kk_60
  have kk_73 : kK S_65 10 = 0 := (aw_68.2.1 10 (lt35 (by decide)) (by decide)).2.trans kk_61
  have kk_74 : kK S_65 11 = 0 := (aw_68.2.1 11 (lt35 (by decide)) (by decide)).2.trans kk_62
  have kk_75 : kK S_65 12 = 0 := (aw_68.2.1 12 (lt35 (by decide)) (by decide)).2.trans kk_63
  have kk_76 : kK S_65 13 = 0 := by rw [hw_66]; exact uR_K.trans (rcut_0 _ (by have := hC0.2 13 (lt35 (by decide)); have := lim_le 13; omega))
  refine lv_aload_n hx hb dX4_startAnew_64 rfl (lv_at hl 0 rfl) ?_
  refine va_get (D := gD G) (ci := 4) (v := .ref (kH S 14)) (C := RX4) (T := TX4) (N := 14) hx hb htu cu_in4 hown hK hP 2 cw_2 rfl 8 (by decide) (htu _ C_74) (fun _ h9 => h9) (c_hv (hh.2 14 (lt35 (by decide)))) dX4_startAnew_65 ?_
  refine lv_iconst (v := 0) hx hb dX4_startAnew_68 (by decide) ?_
  have hC0 := hC
  refine c_cv (c_runV (As := [.int 0]) (rest := []) (q0 := (2 * 14 + 13)) (ci := 0) ⟨hx, hb, hml, hown, htu⟩ (c_cutA l G S_65 14 (lt35 (by decide)) hC (kH S 14) (hh.2 14 (lt35 (by decide))) 0 H) (cwV 1 htu hU_X4_61 rfl rfl rfl (by decide +kernel) ⟨Nat.le_of_ble_eq_true rfl, Nat.le_of_ble_eq_true rfl⟩) hP hK hD hC hpp (c_hd (hh.2 14 (lt35 (by decide))) (cw_row (lt35 (by decide)))) rfl rfl hl.1 rfl (lv_room (Nat.le_of_ble_eq_true rfl)) dX4_startAnew_69) hS hD hh hpp (fun S_78 H locs hw_79 hP hD hS hC hh hs_80 hpq => ?_)
  clear hpp
  have hpp := hpq
  clear hpq
  try dsimp only at hw_79
  have aw_81 : AW [14] [] S_65 S_78 := (by rw [hw_79]; exact AW.u (by decide))
  have aw_81t : AW [6, 7, 8, 9, 16, 14, 10, 11, 12, 13, 17, 18] [] S S_78 := aw_68t.tr (aw_81.mono (by decide) (by decide))
  have kk_82 : kK S_78 6 = 0 := (aw_81.2.1 6 (lt35 (by decide)) (by decide)).2.trans kk_69
  have kk_83 : kK S_78 7 = 0 := (aw_81.2.1 7 (lt35 (by decide)) (by decide)).2.trans kk_70
  have kk_84 : kK S_78 8 = 0 := (aw_81.2.1 8 (lt35 (by decide)) (by decide)).2.trans kk_71
  have kk_85 : kK S_78 9 = 0 := (aw_81.2.1 9 (lt35 (by decide)) (by decide)).2.trans kk_72
  have kk_86 : kK S_78 10 = 0 := (aw_81.2.1 10 (lt35 (by decide)) (by decide)).2.trans kk_73
  have kk_87 : kK S_78 11 = 0 := (aw_81.2.1 11 (lt35 (by decide)) (by decide)).2.trans kk_74
  have kk_88 : kK S_78 12 = 0 := (aw_81.2.1 12 (lt35 (by decide)) (by decide)).2.trans kk_75
  have kk_89 : kK S_78 13 = 0 := (aw_81.2.1 13 (lt35 (by decide)) (by decide)).2.trans kk_76
  have kk_90 : kK S_78 14 = 0 := by rw [hw_79]; exact uR_K.trans (rcut_0 _ (by have := hC0.2 14 (lt35 (by decide)); have := lim_le 14; omega))
  refine lv_aload_n hx hb dX4_startAnew_72 rfl (lv_at hl 0 rfl) ?_
  refine va_get (D := gD G) (ci := 4) (v := .ref (kH S 16)) (C := RX4) (T := TX4) (N := 14) hx hb htu cu_in4 hown hK hP 2 cw_2 rfl 11 (by decide) (htu _ C_77) (fun _ h9 => h9) (c_hv (hh.2 16 (lt35 (by decide)))) dX4_startAnew_73 ?_
  refine lv_iconst (v := 0) hx hb dX4_startAnew_76 (by decide) ?_
  have hC0 := hC
  refine c_cv (c_runV (As := [.int 0]) (rest := []) (q0 := (2 * 16 + 13)) (ci := 0) ⟨hx, hb, hml, hown, htu⟩ (c_cutA l G S_78 16 (lt35 (by decide)) hC (kH S 16) (hh.2 16 (lt35 (by decide))) 0 H) (cwV 1 htu hU_X4_61 rfl rfl rfl (by decide +kernel) ⟨Nat.le_of_ble_eq_true rfl, Nat.le_of_ble_eq_true rfl⟩) hP hK hD hC hpp (c_hd (hh.2 16 (lt35 (by decide))) (cw_row (lt35 (by decide)))) rfl rfl hl.1 rfl (lv_room (Nat.le_of_ble_eq_true rfl)) dX4_startAnew_77) hS hD hh hpp (fun S_92 H locs hw_93 hP hD hS hC hh hs_94 hpq => ?_)
  clear hpp
  have hpp := hpq
  clear hpq
  try dsimp only at hw_93
  have aw_95 : AW [16] [] S_78 S_92 := (by rw [hw_93]; exact AW.u (by decide))
  have aw_95t : AW [6, 7, 8, 9, 16, 14, 10, 11, 12, 13, 17, 18] [] S S_92 := aw_81t.tr (aw_95.mono (by decide) (by decide))
  have kk_96 : kK S_92 6 = 0 := (aw_95.2.1 6 (lt35 (by decide)) (by decide)).2.trans kk_82
  have kk_97 : kK S_92 7 = 0 := (aw_95.2.1 7 (lt35 (by decide)) (by decide)).2.trans kk_83
  have kk_98 : kK S_92 8 = 0 := (aw_95.2.1 8 (lt35 (by decide)) (by decide)).2.trans kk_84
  have kk_99 : kK S_92 9 = 0 := (aw_95.2.1 9 (lt35 (by decide)) (by decide)).2.trans kk_85
  have kk_100 : kK S_92 10 = 0 := (aw_95.2.1 10 (lt35 (by decide)) (by decide)).2.trans kk_86
  have kk_101 : kK S_92 11 = 0 := (aw_95.2.1 11 (lt35 (by decide)) (by decide)).2.trans kk_87
  have kk_102 : kK S_92 12 = 0 := (aw_95.2.1 12 (lt35 (by decide)) (by decide)).2.trans kk_88
  have kk_103 : kK S_92 13 = 0 := (aw_95.2.1 13 (lt35 (by decide)) (by decide)).2.trans kk_89
  have kk_104 : kK S_92 14 = 0 := (aw_95.2.1 14 (lt35 (by decide)) (by decide)).2.trans kk_90
  have kk_105 : kK S_92 16 = 0 := by rw [hw_93]; exact uR_K.trans (rcut_0 _ (by have := hC0.2 16 (lt35 (by decide)); have := lim_le 16; omega))
  refine lv_aload_n hx hb dX4_startAnew_80 rfl (lv_at hl 0 rfl) ?_
  refine va_get (D := gD G) (ci := 4) (v := .ref (kH S 17)) (C := RX4) (T := TX4) (N := 14) hx hb htu cu_in4 hown hK hP 2 cw_2 rfl 12 (by decide) (htu _ C_78) (fun _ h9 => h9) (c_hv (hh.2 17 (lt35 (by decide)))) dX4_startAnew_81 ?_
  refine lv_iconst (v := 0) hx hb dX4_startAnew_84 (by decide) ?_
  have hC0 := hC
  refine c_cv (c_runV (As := [.int 0]) (rest := []) (q0 := (2 * 17 + 13)) (ci := 0) ⟨hx, hb, hml, hown, htu⟩ (c_cutA l G S_92 17 (lt35 (by decide)) hC (kH S 17) (hh.2 17 (lt35 (by decide))) 0 H) (cwV 1 htu hU_X4_61 rfl rfl rfl (by decide +kernel) ⟨Nat.le_of_ble_eq_true rfl, Nat.le_of_ble_eq_true rfl⟩) hP hK hD hC hpp (c_hd (hh.2 17 (lt35 (by decide))) (cw_row (lt35 (by decide)))) rfl rfl hl.1 rfl (lv_room (Nat.le_of_ble_eq_true rfl)) dX4_startAnew_85) hS hD hh hpp (fun S_107 H locs hw_108 hP hD hS hC hh hs_109 hpq => ?_)
  clear hpp
  have hpp := hpq
  clear hpq
  try dsimp only at hw_108
  have aw_110 : AW [17] [] S_92 S_107 := (by rw [hw_108]; exact AW.u (by decide))
  have aw_110t : AW [6, 7, 8, 9, 16, 14, 10, 11, 12, 13, 17, 18] [] S S_107 := aw_95t.tr (aw_110.mono (by decide) (by decide))
  have kk_111 : kK S_107 6 = 0 := (aw_110.2.1 6 (lt35 (by decide)) (by decide)).2.trans kk_96
  have kk_112 : kK S_107 7 = 0 := (aw_110.2.1 7 (lt35 (by decide)) (by decide)).2.trans kk_97
  have kk_113 : kK S_107 8 = 0 := (aw_110.2.1 8 (lt35 (by decide)) (by decide)).2.trans kk_98
  have kk_114 : kK S_107 9 = 0 := (aw_110.2.1 9 (lt35 (by decide)) (by decide)).2.trans kk_99
  have kk_115 : kK S_107 10 = 0 := (aw_110.2.1 10 (lt35 (by decide)) (by decide)).2.trans kk_100
  have kk_116 : kK S_107 11 = 0 := (aw_110.2.1 11 (lt35 (by decide)) (by decide)).2.trans kk_101
  have kk_117 : kK S_107 12 = 0 := (aw_110.2.1 12 (lt35 (by decide)) (by decide)).2.trans kk_102
  have kk_118 : kK S_107 13 = 0 := (aw_110.2.1 13 (lt35 (by decide)) (by decide)).2.trans kk_103
  have kk_119 : kK S_107 14 = 0 := (aw_110.2.1 14 (lt35 (by decide)) (by decide)).2.trans kk_104
  have kk_120 : kK S_107 16 = 0 := (aw_110.2.1 16 (lt35 (by decide)) (by decide)).2.trans kk_105
  have kk_121 : kK S_107 17 = 0 := by rw [hw_108]; exact uR_K.trans (rcut_0 _ (by have := hC0.2 17 (lt35 (by decide)); have := lim_le 17; omega))
  refine lv_aload_n hx hb dX4_startAnew_88 rfl (lv_at hl 0 rfl) ?_
  refine va_get (D := gD G) (ci := 4) (v := .ref (kH S 18)) (C := RX4) (T := TX4) (N := 14) hx hb htu cu_in4 hown hK hP 2 cw_2 rfl 13 (by decide) (htu _ C_79) (fun _ h9 => h9) (c_hv (hh.2 18 (lt35 (by decide)))) dX4_startAnew_89 ?_
  refine lv_iconst (v := 0) hx hb dX4_startAnew_92 (by decide) ?_
  have hC0 := hC
  refine c_cv (c_runV (As := [.int 0]) (rest := []) (q0 := (2 * 18 + 13)) (ci := 0) ⟨hx, hb, hml, hown, htu⟩ (c_cutA l G S_107 18 (lt35 (by decide)) hC (kH S 18) (hh.2 18 (lt35 (by decide))) 0 H) (cwV 1 htu hU_X4_61 rfl rfl rfl (by decide +kernel) ⟨Nat.le_of_ble_eq_true rfl, Nat.le_of_ble_eq_true rfl⟩) hP hK hD hC hpp (c_hd (hh.2 18 (lt35 (by decide))) (cw_row (lt35 (by decide)))) rfl rfl hl.1 rfl (lv_room (Nat.le_of_ble_eq_true rfl)) dX4_startAnew_93) hS hD hh hpp (fun S_123 H locs hw_124 hP hD hS hC hh hs_125 hpq => ?_)
  clear hpp
  have hpp := hpq
  clear hpq
  try dsimp only at hw_124
  have aw_126 : AW [18] [] S_107 S_123 := (by rw [hw_124]; exact AW.u (by decide))
  have aw_126t : AW [6, 7, 8, 9, 16, 14, 10, 11, 12, 13, 17, 18] [] S S_123 := aw_110t.tr (aw_126.mono (by decide) (by decide))
  have kk_127 : kK S_123 6 = 0 := (aw_126.2.1 6 (lt35 (by decide)) (by decide)).2.trans kk_111
  have kk_128 : kK S_123 7 = 0 := (aw_126.2.1 7 (lt35 (by decide)) (by decide)).2.trans kk_112
  have kk_129 : kK S_123 8 = 0 := (aw_126.2.1 8 (lt35 (by decide)) (by decide)).2.trans kk_113
  have kk_130 : kK S_123 9 = 0 := (aw_126.2.1 9 (lt35 (by decide)) (by decide)).2.trans kk_114
  have kk_131 : kK S_123 10 = 0 := (aw_126.2.1 10 (lt35 (by decide)) (by decide)).2.trans kk_115
  have kk_132 : kK S_123 11 = 0 := (aw_126.2.1 11 (lt35 (by decide)) (by decide)).2.trans kk_116
  have kk_133 : kK S_123 12 = 0 := (aw_126.2.1 12 (lt35 (by decide)) (by decide)).2.trans kk_117
  have kk_134 : kK S_123 13 = 0 := (aw_126.2.1 13 (lt35 (by decide)) (by decide)).2.trans kk_118
  have kk_135 : kK S_123 14 = 0 := (aw_126.2.1 14 (lt35 (by decide)) (by decide)).2.trans kk_119
  have kk_136 : kK S_123 16 = 0 := (aw_126.2.1 16 (lt35 (by decide)) (by decide)).2.trans kk_120
  have kk_137 : kK S_123 17 = 0 := (aw_126.2.1 17 (lt35 (by decide)) (by decide)).2.trans kk_121
  have kk_138 : kK S_123 18 = 0 := by rw [hw_124]; exact uR_K.trans (rcut_0 _ (by have := hC0.2 18 (lt35 (by decide)); have := lim_le 18; omega))
  have ty0 : TY S_123 0 0 0 0 0 0 := ⟨⟨kk_127, kk_128, kk_129, kk_130, kk_136, kk_135, kk_131, kk_132, kk_133, kk_134, kk_137, kk_138⟩, ⟨by decide, by decide, Nat.zero_le _, by decide⟩, fun t ht => absurd ht (Nat.not_lt_zero _), fun t ht => absurd ht (Nat.not_lt_zero _), fun t ht => absurd ht (Nat.not_lt_zero _)⟩
  refine lv_aload_n hx hb dX4_startAnew_96 rfl (lv_at hl 0 rfl) ?_
  refine lv_iconst (v := 0) hx hb dX4_startAnew_97 (by decide) ?_
  refine lv_iconst (v := 0) hx hb dX4_startAnew_98 (by decide) ?_
  refine lv_bipush (v := (-9)) hx hb dX4_startAnew_99 (by decide) ?_
  refine lv_bipush (v := (-9)) hx hb dX4_startAnew_101 (by decide) ?_
  have hC0 := hC
  refine c_ci (c_runV (As := [.int 0, .int 0, .int ((-9)), .int ((-9))]) (rest := []) (q0 := 2) (ci := 4) ⟨hx, hb, hml, hown, htu⟩ (x_addType l G S_123 0 0 0 0 0 0 0 0 0 ((-9)) ((-9)) hC ty0 ((Nat.le_refl _)) ((fun h => absurd h (by decide))) ((fun h => absurd h (by decide))) ((Or.inr (Or.inr (Or.inr (by decide))))) H) (cwV 4 htu hU_X4_65 rfl rfl rfl (by decide +kernel) ⟨Nat.le_of_ble_eq_true rfl, Nat.le_of_ble_eq_true rfl⟩) hP hK hD hC hpp cw_2 rfl rfl hl.1 rfl (lv_room (Nat.le_of_ble_eq_true rfl)) dX4_startAnew_103) hS hD hh hpp (fun r_139 S_140 H locs hw_141 hP hD hS hC hh hs_142 hpq => ?_)
  clear hpp
  have hpp := hpq
  clear hpq
  try dsimp only at hw_141
  have aw_143 : AW [6, 7, 8, 9, 16] [] S_123 S_140 := hw_141.1
  have aw_143t : AW [6, 7, 8, 9, 16, 14, 10, 11, 12, 13, 17, 18] [] S S_140 := aw_126t.tr (aw_143.mono (by decide) (by decide))
  have kk_144 : kK S_140 10 = 0 := (aw_143.2.1 10 (lt35 (by decide)) (by decide)).2.trans kk_131
  have kk_145 : kK S_140 11 = 0 := (aw_143.2.1 11 (lt35 (by decide)) (by decide)).2.trans kk_132
  have kk_146 : kK S_140 12 = 0 := (aw_143.2.1 12 (lt35 (by decide)) (by decide)).2.trans kk_133
  have kk_147 : kK S_140 13 = 0 := (aw_143.2.1 13 (lt35 (by decide)) (by decide)).2.trans kk_134
  have kk_148 : kK S_140 14 = 0 := (aw_143.2.1 14 (lt35 (by decide)) (by decide)).2.trans kk_135
  have kk_149 : kK S_140 17 = 0 := (aw_143.2.1 17 (lt35 (by decide)) (by decide)).2.trans kk_137
  have kk_150 : kK S_140 18 = 0 := (aw_143.2.1 18 (lt35 (by decide)) (by decide)).2.trans kk_138
  have hw_1419 := hw_141.2
  clear hw_141
  rcases hw_1419 with ⟨ty_151v, ty_151s, ty_151t⟩ | ⟨ty_151v, ty_151t, ty_151, ty_151o, ty_1514, ty_1518, ty_151a, ty_151l⟩
  · exact absurd ty_151t (by decide)
  · skip
    subst ty_151v
    refine lv_pop hx hb dX4_startAnew_106 rfl ?_
    refine lv_aload_n hx hb dX4_startAnew_107 rfl (lv_at hl 0 rfl) ?_
    refine lv_iconst (v := 1) hx hb dX4_startAnew_108 (by decide) ?_
    refine lv_iconst (v := 0) hx hb dX4_startAnew_109 (by decide) ?_
    refine lv_bipush (v := (-9)) hx hb dX4_startAnew_110 (by decide) ?_
    refine lv_bipush (v := (-9)) hx hb dX4_startAnew_112 (by decide) ?_
    have hC0 := hC
    refine c_ci (c_runV (As := [.int 1, .int 0, .int ((-9)), .int ((-9))]) (rest := []) (q0 := 2) (ci := 4) ⟨hx, hb, hml, hown, htu⟩ (x_addType l G S_140 1 0 0 0 0 0 0 1 0 ((-9)) ((-9)) hC ty_151 ((Nat.le_refl _)) ((fun h => absurd h (by decide))) ((fun h => absurd h (by decide))) ((Or.inr (Or.inr (Or.inr (by decide))))) H) (cwV 4 htu hU_X4_65 rfl rfl rfl (by decide +kernel) ⟨Nat.le_of_ble_eq_true rfl, Nat.le_of_ble_eq_true rfl⟩) hP hK hD hC hpp cw_2 rfl rfl hl.1 rfl (lv_room (Nat.le_of_ble_eq_true rfl)) dX4_startAnew_114) hS hD hh hpp (fun r_152 S_153 H locs hw_154 hP hD hS hC hh hs_155 hpq => ?_)
    clear hpp
    have hpp := hpq
    clear hpq
    try dsimp only at hw_154
    have aw_156 : AW [6, 7, 8, 9, 16] [] S_140 S_153 := hw_154.1
    have aw_156t : AW [6, 7, 8, 9, 16, 14, 10, 11, 12, 13, 17, 18] [] S S_153 := aw_143t.tr (aw_156.mono (by decide) (by decide))
    have kk_157 : kK S_153 10 = 0 := (aw_156.2.1 10 (lt35 (by decide)) (by decide)).2.trans kk_144
    have kk_158 : kK S_153 11 = 0 := (aw_156.2.1 11 (lt35 (by decide)) (by decide)).2.trans kk_145
    have kk_159 : kK S_153 12 = 0 := (aw_156.2.1 12 (lt35 (by decide)) (by decide)).2.trans kk_146
    have kk_160 : kK S_153 13 = 0 := (aw_156.2.1 13 (lt35 (by decide)) (by decide)).2.trans kk_147
    have kk_161 : kK S_153 14 = 0 := (aw_156.2.1 14 (lt35 (by decide)) (by decide)).2.trans kk_148
    have kk_162 : kK S_153 17 = 0 := (aw_156.2.1 17 (lt35 (by decide)) (by decide)).2.trans kk_149
    have kk_163 : kK S_153 18 = 0 := (aw_156.2.1 18 (lt35 (by decide)) (by decide)).2.trans kk_150
    have hw_1549 := hw_154.2
    clear hw_154
    rcases hw_1549 with ⟨ty_164v, ty_164s, ty_164t⟩ | ⟨ty_164v, ty_164t, ty_164, ty_164o, ty_1644, ty_1648, ty_164a, ty_164l⟩
    · exact absurd ty_164t (by decide)
    · skip
      subst ty_164v
      refine lv_pop hx hb dX4_startAnew_117 rfl ?_
      exact c_vret hx hb hr hK hP hD hS hC hh hpp ⟨aw_156t, ⟨ty_164, ⟨(ty_164a.2.2 0 (by decide)).1.trans ty_151a.2.1.1, ty_164a.2.1.1⟩, ⟨(ty_164a.2.2 0 (by decide)).2.1.trans ty_151a.2.1.2.1, ty_164a.2.1.2.1⟩, (ty_164l.2 0 (by decide)).trans ty_151l.1, ty_164l.1⟩⟩ dX4_startAnew_118 hlocks

set_option maxHeartbeats 4000000 in
set_option maxRecDepth 100000 in
/-- forget -/
theorem x_forget (l : Launch) (G : cG) (S : cS) (hC : CL S) (Hs : Heap) : Met l yX5_forget (wC yX5_forget cX5_forget 1 none) (cRm S 5 148) (cPc G S Hs [.ref (ga G 4)]) (cQv G S Hs (fun u => AW [6, 7, 8, 9, 16, 14, 10, 11, 12, 13, 17, 18] [12, 13, 14] S u ∧ ((TY u 2 0 0 0 0 0 ∧ S0 u) ∧ u.1 12 = 0 ∧ u.1 13 = (-9) ∧ u.1 14 = (-4)))) (CC - PT S) (12 * (CC - PT S)) (cA G S Hs.size) := by
  refine Met.ofW (cc := cX5_forget) (maxL := 1) (ret := none) (by decide) rfl ?_
  intro p e s m args below meth c s₁ B hml hv
  obtain ⟨rfl, hsz, hP, hK, hD0, -⟩ := hv
  have hx := B.exec
  have hb := B.bytes
  have hr := B.returns
  have htu : ∀ w ∈ CU, w.before _ s = true := fun w h => atoms_spec (ws := (wC yX5_forget cX5_forget 1 none)) B.pre w (List.mem_cons_of_mem _ h)
  have hown : s.vm.findClass RX5 = some m.cls := findClass_of_methodNamed B.named
  have hlocks := B.notSynchronized
  subst hsz
  have hD : cD (cA G S s.heap.size) G S := cD_self hD0
  have hl := lv_entry ([.ref (ga G 4)]) (n := 1) (Nat.le_of_ble_eq_true rfl)
  rw [lg_entry_eq]
  generalize (lg_sl ([.ref (ga G 4)]) ++ List.replicate (1 - (lg_sl ([.ref (ga G 4)])).length) Slot.unset).toArray = ls at hl ⊢
  have hl : lv_has ls 1 [(0, .ref (ga G 4))] := hl
  obtain ⟨H, hHe⟩ : ∃ H : Heap, H = s.heap := ⟨_, rfl⟩
  rw [← hHe] at hP
  have hS : va_S (cA G S s.heap.size) s.heap H [] := by rw [hHe]; exact va_S.rf
  have hh : HS S S := HS.rf
  have hpp : PT S ≤ PT S := Nat.le_refl _
  have hB9 := hC.1
  refine W.heq hHe ?_
  refine c_ent (S := S) ?_
  refine lv_aload_n hx hb dX5_forget_0 rfl (lv_at hl 0 rfl) ?_
  refine va_get (D := gD G) (ci := 5) (v := .ref (ga G 2)) (C := RX5) (T := TX5) (N := 15) hx hb htu cu_in5 hown hK hP 4 cw_4 rfl 1 (by decide) (htu _ C_45) (fun _ h9 => h9) rfl dX5_forget_1 ?_
  have hC0 := hC
  refine c_cv (c_runV (As := []) (rest := []) (q0 := 2) (ci := 4) ⟨hx, hb, hml, hown, htu⟩ (x_startAnewT l G S  hC  H) (cwV 0 htu hU_X5_68 rfl rfl rfl (by decide +kernel) ⟨Nat.le_of_ble_eq_true rfl, Nat.le_of_ble_eq_true rfl⟩) hP hK hD hC hpp cw_2 rfl rfl hl.1 rfl (lv_room (Nat.le_of_ble_eq_true rfl)) dX5_forget_4) hS hD hh hpp (fun S_2 H locs hw_3 hP hD hS hC hh hs_4 hpq => ?_)
  clear hpp
  have hpp := hpq
  clear hpq
  try dsimp only at hw_3
  have aw_5 : AW [6, 7, 8, 9, 16, 14, 10, 11, 12, 13, 17, 18] [] S S_2 := hw_3.1
  have aw_5t : AW [6, 7, 8, 9, 16, 14, 10, 11, 12, 13, 17, 18] [12, 13, 14] S S_2 := AW.rf.tr (aw_5.mono (by decide) (by decide))
  obtain ⟨ty_6, ty_6s⟩ := hw_3.2
  refine lv_aload_n hx hb dX5_forget_7 rfl (lv_at hl 0 rfl) ?_
  refine lv_iconst (v := 0) hx hb dX5_forget_8 (by decide) ?_
  refine c_put4_12 (x := 0) hx hb htu hown hK hP hD hS (htu _ C_262) dX5_forget_9 (fun H locs hP hD hS => ?_)
  have S_7h : HS S (cO S_2 12 0) := hh
  have S_7c : CL (cO S_2 12 0) := hC
  have S_7p : PT S ≤ PT (cO S_2 12 0) := hpp
  refine c_eq (S1 := S_2) (S2 := cO S_2 12 0) rfl ?_
  have S_7w : AW [6, 7, 8, 9, 16, 14, 10, 11, 12, 13, 17, 18] [12, 13, 14] S (cO S_2 12 0) := (AW.o aw_5t (by decide))
  have hh := S_7h
  have hC := S_7c
  clear hpp
  have hpp := S_7p
  clear S_7p
  refine lv_aload_n hx hb dX5_forget_12 rfl (lv_at hl 0 rfl) ?_
  refine lv_bipush (v := (-9)) hx hb dX5_forget_13 (by decide) ?_
  refine c_put4_13 (x := ((-9))) hx hb htu hown hK hP hD hS (htu _ C_58) dX5_forget_15 (fun H locs hP hD hS => ?_)
  have S_8h : HS S (cO (cO S_2 12 0) 13 ((-9))) := hh
  have S_8c : CL (cO (cO S_2 12 0) 13 ((-9))) := hC
  have S_8p : PT S ≤ PT (cO (cO S_2 12 0) 13 ((-9))) := hpp
  refine c_eq (S1 := (cO S_2 12 0)) (S2 := cO (cO S_2 12 0) 13 ((-9))) rfl ?_
  have S_8w : AW [6, 7, 8, 9, 16, 14, 10, 11, 12, 13, 17, 18] [12, 13, 14] S (cO (cO S_2 12 0) 13 ((-9))) := (AW.o S_7w (by decide))
  have hh := S_8h
  have hC := S_8c
  clear hpp
  have hpp := S_8p
  clear S_8p
  refine lv_aload_n hx hb dX5_forget_18 rfl (lv_at hl 0 rfl) ?_
  refine lv_bipush (v := (-4)) hx hb dX5_forget_19 (by decide) ?_
  refine c_put4_14 (x := ((-4))) hx hb htu hown hK hP hD hS (htu _ C_59) dX5_forget_21 (fun H locs hP hD hS => ?_)
  have S_9h : HS S (cO (cO (cO S_2 12 0) 13 ((-9))) 14 ((-4))) := hh
  have S_9c : CL (cO (cO (cO S_2 12 0) 13 ((-9))) 14 ((-4))) := hC
  have S_9p : PT S ≤ PT (cO (cO (cO S_2 12 0) 13 ((-9))) 14 ((-4))) := hpp
  refine c_eq (S1 := (cO (cO S_2 12 0) 13 ((-9)))) (S2 := cO (cO (cO S_2 12 0) 13 ((-9))) 14 ((-4))) rfl ?_
  have S_9w : AW [6, 7, 8, 9, 16, 14, 10, 11, 12, 13, 17, 18] [12, 13, 14] S (cO (cO (cO S_2 12 0) 13 ((-9))) 14 ((-4))) := (AW.o S_8w (by decide))
  have hh := S_9h
  have hC := S_9c
  clear hpp
  have hpp := S_9p
  clear S_9p
  exact c_vret hx hb hr hK hP hD hS hC hh hpp ⟨S_9w, ⟨⟨ty_6, ty_6s⟩, ((cO_n (show 12 ≠ 14 by decide)).trans ((cO_n (show 12 ≠ 13 by decide)).trans cO_s)), ((cO_n (show 13 ≠ 14 by decide)).trans cO_s), cO_s⟩⟩ dX5_forget_24 hlocks

/-- the latest type() in the class: the machine's z; the times told so far -/
def KL (u : cS) (z : aS) (tm : Nat) : Prop := KT u z ∧ KM0 u tm ∧ u.1 8 = nI tm ∧ (kK u 23 = 120 ∧ kK u 24 = 120) ∧ u.1 13 = wc z
def tans (r : aS × Nat) : Int32 := if sto r.1 = 0 then nI (nV r.1) else sc (sto r.1)

theorem wc_0 {z : aS} (h : sto z = 0) : wc z = -9 := if_pos h
theorem wc_p {z : aS} {p : Nat} (h : sto z ≠ 0) (e : z.1 0 4 = p + 1) : wc z = nI p := by
  unfold wc
  rw [if_neg h, e, Nat.add_sub_cancel]
theorem KL.aw {rs is : List Nat} {S u : cS} {z : aS} {tm : Nat} (h : KL S z tm) (a : AW rs is S u) (hr : ∀ r ∈ [6, 7, 8, 9, 10, 11, 14, 23, 24, 25, 26, 35], r ∉ rs) (hi : 8 ∉ is ∧ 13 ∉ is) : KL u z tm := by
  obtain ⟨h1, h2, h3, ⟨h4, h4b⟩, h5⟩ := h
  exact ⟨h1.aw a (fun r h => hr r (by revert r; decide)), h2.aw a (fun r h => hr r (by revert r; decide)), (a.1 8 hi.1).trans h3, ⟨(a.2.1 23 (lt35 (by decide)) (hr 23 (by decide))).2.trans h4, (a.2.1 24 (lt35 (by decide)) (hr 24 (by decide))).2.trans h4b⟩, (a.1 13 hi.2).trans h5⟩

set_option maxHeartbeats 4000000 in
set_option maxRecDepth 100000 in
/-- typeProgram -/
theorem x_typeProgram (l : Launch) (G : cG) (S : cS) (N : Nat) (sm0 : Nat) (tr : aM) (mk : Nat → Int32) (rk : Nat → Nat) (n9 : Nat) (tm : Nat) (hC : CL S) (hT : TJ S N) (h15 : kK S 15 = 0) (h19 : kK S 19 = 0) (h20 : kK S 20 = 0) (h21 : kK S 21 = 0) (h201 : S.1 201 = nI sm0) (hsm : sm0 ≤ 400) (hE : TC S tr mk N) (hO : TO S tr N) (hrk : RKs tr rk N) (hn : n9 < N) (h8 : S.1 8 = nI tm) (hm0 : KM0 S tm) (htm : tm + 1501 + cntT tr 60 n9 ≤ 2 ^ 29) (hk2 : kK S 23 = 120 ∧ kK S 24 = 120) (Hs : Heap) : Met l yX5_typeProgram (wC yX5_typeProgram cX5_typeProgram 3 (some .int)) (cRm S 300 11000) (cPc G S Hs [.ref (ga G 4), .int (nI n9)]) (cQi G S Hs (fun v u => AW [6, 7, 8, 9, 16, 14, 10, 11, 12, 13, 17, 18, 23, 24, 25, 26, 35, 19, 20, 21, 22] [8, 9, 10, 11, 12, 13, 14, 201, 300] S u ∧ (((∃ T V X Y Z, TY u T V V X Y Z) ∧ (kK u 15 = 0 ∧ kK u 19 = 0 ∧ kK u 20 = 0 ∧ kK u 21 = 0) ∧ ∃ sm, u.1 201 = nI sm ∧ sm ≤ 400) ∧ (∃ tm', KL u (ty tr n9 60 (zS n9) n9 0).1 tm' ∧ tm' ≤ tm + 1500 + cntT tr 60 n9) ∧ v = tans (ty tr n9 60 (zS n9) n9 0) ∧ u.1 14 = sc (sto (ty tr n9 60 (zS n9) n9 0).1)))) (CC - PT S) (12 * (CC - PT S)) (cA G S Hs.size) := by
  refine Met.ofW (cc := cX5_typeProgram) (maxL := 3) (ret := (some .int)) (by decide) rfl ?_
  intro p e s m args below meth c s₁ B hml hv
  obtain ⟨rfl, hsz, hP, hK, hD0, -⟩ := hv
  have hx := B.exec
  have hb := B.bytes
  have hr := B.returns
  have htu : ∀ w ∈ CU, w.before _ s = true := fun w h => atoms_spec (ws := (wC yX5_typeProgram cX5_typeProgram 3 (some .int))) B.pre w (List.mem_cons_of_mem _ h)
  have hown : s.vm.findClass RX5 = some m.cls := findClass_of_methodNamed B.named
  have hlocks := B.notSynchronized
  subst hsz
  have hD : cD (cA G S s.heap.size) G S := cD_self hD0
  have hl := lv_entry ([.ref (ga G 4), .int (nI n9)]) (n := 3) (Nat.le_of_ble_eq_true rfl)
  rw [lg_entry_eq]
  generalize (lg_sl ([.ref (ga G 4), .int (nI n9)]) ++ List.replicate (3 - (lg_sl ([.ref (ga G 4), .int (nI n9)])).length) Slot.unset).toArray = ls at hl ⊢
  have hl : lv_has ls 3 [(0, .ref (ga G 4)), (1, .int (nI n9))] := hl
  obtain ⟨H, hHe⟩ : ∃ H : Heap, H = s.heap := ⟨_, rfl⟩
  rw [← hHe] at hP
  have hS : va_S (cA G S s.heap.size) s.heap H [] := by rw [hHe]; exact va_S.rf
  have hh : HS S S := HS.rf
  have hpp : PT S ≤ PT S := Nat.le_refl _
  have hB9 := hC.1
  refine W.heq hHe ?_
  refine c_ent (S := S) ?_
  refine lv_aload_n hx hb dX5_typeProgram_0 rfl (lv_at hl 0 rfl) ?_
  have hC0 := hC
  refine c_cv (c_runV (As := []) (rest := []) (q0 := 4) (ci := 5) ⟨hx, hb, hml, hown, htu⟩ (x_forget l G S  hC  H) (cwV 0 htu hU_X5_74 rfl rfl rfl (by decide +kernel) ⟨show 5 + 1 ≤ 300 by omega, show 8 + (1 + 11) + 148 ≤ 11000 by omega⟩) hP hK hD hC hpp cw_4 rfl rfl hl.1 rfl (lv_room (Nat.le_of_ble_eq_true rfl)) dX5_typeProgram_1) hS hD hh hpp (fun S_2 H locs hw_3 hP hD hS hC hh hs_4 hpq => ?_)
  clear hpp
  have hpp := hpq
  clear hpq
  try dsimp only at hw_3
  have aw_5 : AW [6, 7, 8, 9, 16, 14, 10, 11, 12, 13, 17, 18] [12, 13, 14] S S_2 := hw_3.1
  have aw_5t : AW [6, 7, 8, 9, 16, 14, 10, 11, 12, 13, 17, 18, 23, 24, 25, 26, 35, 19, 20, 21, 22] [8, 9, 10, 11, 12, 13, 14, 201, 300] S S_2 := AW.rf.tr (aw_5.mono (by decide) (by decide))
  have kk_6 : kK S_2 15 = 0 := (aw_5.2.1 15 (lt35 (by decide)) (by decide)).2.trans h15
  have kk_7 : kK S_2 19 = 0 := (aw_5.2.1 19 (lt35 (by decide)) (by decide)).2.trans h19
  have kk_8 : kK S_2 20 = 0 := (aw_5.2.1 20 (lt35 (by decide)) (by decide)).2.trans h20
  have kk_9 : kK S_2 21 = 0 := (aw_5.2.1 21 (lt35 (by decide)) (by decide)).2.trans h21
  have ii_10 : S_2.1 201 = nI sm0 := (aw_5.1 201 (by decide)).trans h201
  have ii_11 : S_2.1 8 = nI tm := (aw_5.1 8 (by decide)).trans h8
  have tj_12 : TJ S_2 N := TJ.aw hT aw_5 (by decide)
  obtain ⟨⟨fg_13, fg_13s⟩, fg_1312, fg_1313, fg_1314⟩ := hw_3.2
  obtain ⟨fg_13kt, fg_13kq⟩ := kt_start fg_13 fg_13s (z0_zS n9)
  have fg_13m := hm0.aw aw_5 (by decide)
  have fg_13e := hE.aw aw_5 (by decide)
  have fg_13o := hO.aw aw_5 (by decide)
  have fg_1323 := (aw_5.2.1 23 (lt35 (by decide)) (by decide)).2.trans hk2.1
  have fg_1324 := (aw_5.2.1 24 (lt35 (by decide)) (by decide)).2.trans hk2.2
  have fg_138 := (aw_5.1 8 (by decide)).trans h8
  refine lv_aload_n hx hb dX5_typeProgram_4 rfl (lv_at hl 0 rfl) ?_
  refine lv_iload_n hx hb dX5_typeProgram_5 rfl (lv_at hl 1 rfl) ?_
  refine c_put4_11 (x := (nI n9)) hx hb htu hown hK hP hD hS (htu _ C_57) dX5_typeProgram_6 (fun H locs hP hD hS => ?_)
  have S_14h : HS S (cO S_2 11 (nI n9)) := hh
  have S_14c : CL (cO S_2 11 (nI n9)) := hC
  have S_14p : PT S ≤ PT (cO S_2 11 (nI n9)) := hpp
  refine c_eq (S1 := S_2) (S2 := cO S_2 11 (nI n9)) rfl ?_
  have S_14w : AW [6, 7, 8, 9, 16, 14, 10, 11, 12, 13, 17, 18, 23, 24, 25, 26, 35, 19, 20, 21, 22] [8, 9, 10, 11, 12, 13, 14, 201, 300] S (cO S_2 11 (nI n9)) := (AW.o aw_5t (by decide))
  have hh := S_14h
  have hC := S_14c
  clear hpp
  have hpp := S_14p
  clear S_14p
  have tj_15 : TJ (cO S_2 11 (nI n9)) N := tj_12
  have ty_16 : TY (cO S_2 11 (nI n9)) 2 0 0 0 0 0 := fg_13
  refine lv_aload_n hx hb dX5_typeProgram_9 rfl (lv_at hl 0 rfl) ?_
  refine lv_iload_n hx hb dX5_typeProgram_10 rfl (lv_at hl 1 rfl) ?_
  refine lv_iconst (v := 0) hx hb dX5_typeProgram_11 (by decide) ?_
  refine lv_iconst (v := 1) hx hb dX5_typeProgram_12 (by decide) ?_
  have us_17t : TY (cO S_2 11 (nI n9)) 2 0 0 0 0 0 := fg_13
  have us_17 : US (cO S_2 11 (nI n9)) 2 0 0 0 0 0 := ⟨us_17t, ((cO_n (show 12 ≠ 11 by decide)).trans fg_1312), Nat.le_refl _, fun j hj => absurd hj (Nat.not_lt_zero _)⟩
  have us_17q : KQ (cO S_2 11 (nI n9)) (zS n9) := KQ.aw fg_13kq (rs := []) (is := [11]) (AW.o AW.rf (by decide)) (by decide) rfl rfl
  have us_178 : (cO S_2 11 (nI n9)).1 8 = nI tm := (cO_n (by decide)).trans fg_138
  have us_1713 : (cO S_2 11 (nI n9)).1 13 = -9 := ((cO_n (show 13 ≠ 11 by decide)).trans fg_1313)
  have hC0 := hC
  refine c_ci (c_runV (As := [.int (nI n9), .int 0, .int 1]) (rest := []) (q0 := 4) (ci := 5) ⟨hx, hb, hml, hown, htu⟩ ((x_typed_all 60) l G (cO S_2 11 (nI n9)) 2 0 0 0 0 0 N 1 0 tr mk rk n9 ((fun _ => False)) ((zS n9)) n9 tm hC us_17 ((by decide)) kk_6 tj_15 ((show 1 + 60 = 61 by decide)) ((by decide)) ((by decide)) fg_13e fg_13o hrk hn hn cO_s ((cv_top (fun _ => False) tr n9)) fg_13kt us_17q fg_13m us_178 ((Nat.le_trans htm (Nat.le_add_right _ _))) rfl rfl us_1713 (⟨fg_1323, fg_1324⟩) ((fun q hq => absurd hq id)) H) (cwV 3 htu hU_X5_77 rfl rfl rfl (by decide +kernel) ⟨show (2 * 60 + 140) + 1 ≤ 300 by omega, show 8 + (5 + 11) + (60 * 60 + 6500) ≤ 11000 by omega⟩) hP hK hD hC hpp cw_4 rfl rfl hl.1 rfl (lv_room (Nat.le_of_ble_eq_true rfl)) dX5_typeProgram_13) hS hD hh hpp (fun r_18 S_19 H locs hw_20 hP hD hS hC hh hs_21 hpq => ?_)
  clear hpp
  have hpp := hpq
  clear hpq
  try dsimp only at hw_20
  have aw_22 : AW [6, 7, 8, 9, 16, 14, 10, 11, 12, 13, 17, 18, 23, 24, 25, 26, 35] [8, 9, 10, 12, 13] (cO S_2 11 (nI n9)) S_19 := hw_20.1
  have aw_22t : AW [6, 7, 8, 9, 16, 14, 10, 11, 12, 13, 17, 18, 23, 24, 25, 26, 35, 19, 20, 21, 22] [8, 9, 10, 11, 12, 13, 14, 201, 300] S S_19 := S_14w.tr (aw_22.mono (by decide) (by decide))
  have kk_23 : kK S_19 15 = 0 := (aw_22.2.1 15 (lt35 (by decide)) (by decide)).2.trans kk_6
  have kk_24 : kK S_19 19 = 0 := (aw_22.2.1 19 (lt35 (by decide)) (by decide)).2.trans kk_7
  have kk_25 : kK S_19 20 = 0 := (aw_22.2.1 20 (lt35 (by decide)) (by decide)).2.trans kk_8
  have kk_26 : kK S_19 21 = 0 := (aw_22.2.1 21 (lt35 (by decide)) (by decide)).2.trans kk_9
  have ii_27 : S_19.1 201 = nI sm0 := (aw_22.1 201 (by decide)).trans ((cO_n (show 201 ≠ 11 by decide)).trans ii_10)
  have ii_28 : S_19.1 14 = (-4) := (aw_22.1 14 (by decide)).trans ((cO_n (show 14 ≠ 11 by decide)).trans fg_1314)
  have ii_29 : S_19.1 11 = nI n9 := (aw_22.1 11 (by decide)).trans cO_s
  have tj_30 : TJ S_19 N := TJ.aw tj_15 aw_22 (by decide)
  obtain ⟨tp_31A, tp_31E⟩ := hw_20.2
  clear hw_20
  obtain ⟨tp_31T, tp_31V, tp_31X, tp_31Y, tp_31Z, tp_31q, tp_31, -⟩ := tp_31A
  have tp_31t := tp_31.1
  obtain ⟨tp_31R, tp_31e⟩ : ∃ R, (ty tr n9 60 (zS n9) n9 0) = R := ⟨_, rfl⟩
  rw [tp_31e] at tp_31E
  obtain ⟨⟨tp_31t9, tp_31gs, tp_31yc⟩, tp_31g, tp_31b⟩ := tp_31E
  have tp_31s0 : stp (zS n9) = 0 := rfl
  rcases Nat.eq_zero_or_pos (sto tp_31R.1) with tp_31z | tp_31z
  · skip
    obtain ⟨tp_31v, tp_31x, tp_3112, tp_3113⟩ := tp_31g tp_31z
    subst tp_31v
    have tp_316 := tp_31yc.1.1.2.2.2.2.2.2.2.1
    refine lv_istore_n (lv' := [(2, .int (nI tp_31R.2)), (0, .ref (ga G 4)), (1, .int (nI n9))]) hx hb dX5_typeProgram_16 rfl hl (by decide) rfl (fun ls hl => ?_)
    refine lv_aload_n hx hb dX5_typeProgram_17 rfl (lv_at hl 1 rfl) ?_
    refine lv_iload_n hx hb dX5_typeProgram_18 rfl (lv_at hl 0 rfl) ?_
    refine lv_if_ge (tgt := 26) hx hb dX5_typeProgram_19 (by decide) (fun c_32 => ?_) (fun c_32 => absurd (Int32.not_lt.mp (nI_n0 (by omega))) c_32)
    refine lv_iconst (v := 0) hx hb dX5_typeProgram_26 (by decide) ?_
    refine c_put4_14 (x := 0) hx hb htu hown hK hP hD hS (htu _ C_59) dX5_typeProgram_27 (fun H locs hP hD hS => ?_)
    have S_33h : HS S (cO S_19 14 0) := hh
    have S_33c : CL (cO S_19 14 0) := hC
    have S_33p : PT S ≤ PT (cO S_19 14 0) := hpp
    refine c_eq (S1 := S_19) (S2 := cO S_19 14 0) rfl ?_
    have S_33w : AW [6, 7, 8, 9, 16, 14, 10, 11, 12, 13, 17, 18, 23, 24, 25, 26, 35, 19, 20, 21, 22] [8, 9, 10, 11, 12, 13, 14, 201, 300] S (cO S_19 14 0) := (AW.o aw_22t (by decide))
    have hh := S_33h
    have hC := S_33c
    clear hpp
    have hpp := S_33p
    clear S_33p
    have tj_34 : TJ (cO S_19 14 0) N := tj_30
    have ty_35 : TY (cO S_19 14 0) tp_31T tp_31V tp_31V tp_31X tp_31Y tp_31Z := tp_31t
    have tp_31kl : KL (cO S_19 14 0) tp_31R.1 tp_31t9 := ⟨tp_31yc.1, tp_31yc.2.2.1, (cO_n (by decide)).trans tp_31yc.2.2.2.1, tp_31yc.2.2.2.2.2.2.1, (cO_n (by decide)).trans (tp_3113.trans (wc_0 tp_31z).symm)⟩
    have tp_31le : tp_31t9 ≤ tm + 1500 + cntT tr 60 n9 := by have := tp_31yc.2.2.2.2.1; omega
    have tp_3114 : (cO S_19 14 0).1 14 = sc (sto tp_31R.1) := cO_s.trans (by rw [tp_31z]; rfl)
    refine lv_aload_n hx hb dX5_typeProgram_30 rfl (lv_at hl 1 rfl) ?_
    refine va_get (D := gD G) (ci := 5) (v := .int 0) (C := RX5) (T := TX5) (N := 15) hx hb htu cu_in5 hown hK hP 4 cw_4 rfl 14 (by decide) (htu _ C_59) (fun _ h9 => h9) (m_v cO_s) dX5_typeProgram_31 ?_
    refine lv_if_eq (tgt := 42) hx hb dX5_typeProgram_34 (by decide) (fun c_36 => ?_) (fun c_36 => absurd (by decide) c_36)
    refine lv_aload_n hx hb dX5_typeProgram_42 rfl (lv_at hl 1 rfl) ?_
    refine va_get (D := gD G) (ci := 5) (v := .ref (ga G 3)) (C := RX5) (T := TX5) (N := 15) hx hb htu cu_in5 hown hK hP 4 cw_4 rfl 2 (by decide) (htu _ C_49) (fun _ h9 => h9) rfl dX5_typeProgram_43 ?_
    refine lv_iload_n hx hb dX5_typeProgram_46 rfl (lv_at hl 0 rfl) ?_
    refine lv_iconst (v := 0) hx hb dX5_typeProgram_47 (by decide) ?_
    refine lv_aload_n hx hb dX5_typeProgram_48 rfl (lv_at hl 1 rfl) ?_
    refine va_get (D := gD G) (ci := 5) (v := .ref (ga G 7)) (C := RX5) (T := TX5) (N := 15) hx hb htu cu_in5 hown hK hP 4 cw_4 rfl 3 (by decide) (htu _ C_51) (fun _ h9 => h9) rfl dX5_typeProgram_49 ?_
    have hC0 := hC
    refine c_cv (c_runV (As := [.int (nI tp_31R.2), .int 0, .ref (ga G 7)]) (rest := []) (q0 := 3) (ci := 2) ⟨hx, hb, hml, hown, htu⟩ (l_tell_7 l G (cO S_19 14 0) tp_31T tp_31V tp_31V tp_31X tp_31Y tp_31Z 0 (nI tp_31R.2) hC ty_35 ((Nat.le_refl _)) kk_24 kk_25 kk_26 ((by decide)) H) (cwV 3 htu hU_X5_81 rfl rfl rfl (by decide +kernel) ⟨show 5 + 1 ≤ 300 by omega, show 8 + (5 + 11) + 151 ≤ 11000 by omega⟩) hP hK hD hC hpp cw_3 rfl rfl hl.1 rfl (lv_room (Nat.le_of_ble_eq_true rfl)) dX5_typeProgram_52) hS hD hh hpp (fun S_38 H locs hw_39 hP hD hS hC hh hs_40 hpq => ?_)
    clear hpp
    have hpp := hpq
    clear hpq
    try dsimp only at hw_39
    have aw_41 : AW [19, 20, 21, 22] [201, 300] (cO S_19 14 0) S_38 := hw_39.1
    have aw_41t : AW [6, 7, 8, 9, 16, 14, 10, 11, 12, 13, 17, 18, 23, 24, 25, 26, 35, 19, 20, 21, 22] [8, 9, 10, 11, 12, 13, 14, 201, 300] S S_38 := S_33w.tr (aw_41.mono (by decide) (by decide))
    have kk_42 : kK S_38 15 = 0 := (aw_41.2.1 15 (lt35 (by decide)) (by decide)).2.trans kk_23
    have ii_43 : S_38.1 14 = 0 := (aw_41.1 14 (by decide)).trans cO_s
    have ii_44 : S_38.1 11 = nI n9 := (aw_41.1 11 (by decide)).trans ((cO_n (show 11 ≠ 14 by decide)).trans ii_29)
    have ii_45 : S_38.1 13 = (-9) := (aw_41.1 13 (by decide)).trans ((cO_n (show 13 ≠ 14 by decide)).trans tp_3113)
    have tj_46 : TJ S_38 N := TJ.aw tj_34 aw_41 (by decide)
    have ty_47 := TY.aw ty_35 aw_41 (by decide)
    obtain ⟨tl_48m, tl_48⟩ := hw_39.2
    have tp_31kl2 := tp_31kl.aw aw_41 (by decide) (by decide)
    have tp_31142 := (aw_41.1 14 (by decide)).trans tp_3114
    refine lv_aload_n hx hb dX5_typeProgram_55 rfl (lv_at hl 1 rfl) ?_
    refine va_get (D := gD G) (ci := 5) (v := .ref (ga G 2)) (C := RX5) (T := TX5) (N := 15) hx hb htu cu_in5 hown hK hP 4 cw_4 rfl 1 (by decide) (htu _ C_45) (fun _ h9 => h9) rfl dX5_typeProgram_56 ?_
    have hC0 := hC
    refine c_ci (c_runV (As := []) (rest := []) (q0 := 2) (ci := 4) ⟨hx, hb, hml, hown, htu⟩ (y_variableCount l G S_38  hC  H) (cwV 0 htu hU_X5_85 rfl rfl rfl (by decide +kernel) ⟨show 0 + 1 ≤ 300 by omega, show 8 + (1 + 11) + 0 ≤ 11000 by omega⟩) hP hK hD hC hpp cw_2 rfl rfl hl.1 rfl (lv_room (Nat.le_of_ble_eq_true rfl)) dX5_typeProgram_59) hS hD hh hpp (fun r_49 S_50 H locs hw_51 hP hD hS hC hh hs_52 hpq => ?_)
    clear hpp
    have hpp := hpq
    clear hpq
    obtain ⟨-, hu9, hw_51⟩ := hw_51
    have hu9 := hu9.symm
    subst hu9
    obtain rfl : r_49 = nI (nV tp_31R.1) := hw_51.trans (congrArg nI tp_31kl2.1.1.2.2.2.2.1)
    exact c_iret (v := nI (nV tp_31R.1)) hx hb hr hK hP hD hS hC hh hpp ⟨aw_41t, ⟨⟨⟨_, _, _, _, _, ty_47⟩, ⟨kk_42, tl_48.1.1, tl_48.1.2.1, tl_48.1.2.2⟩, _, tl_48.2.1, tl_48.2.2.1⟩, by rw [tp_31e]; exact ⟨⟨tp_31t9, tp_31kl2, tp_31le⟩, (by unfold tans; rw [if_pos tp_31z]), tp_31142⟩⟩⟩ dX5_typeProgram_62 hlocks
  · skip
    have tp_31zz : sto tp_31R.1 ≠ 0 := Nat.ne_of_gt tp_31z
    obtain ⟨tp_31v, tp_31p, tp_31p1, tp_31p2, tp_31p3⟩ := tp_31b tp_31zz
    have tp_31ng : r_18 < 0 := by rw [tp_31v]; exact sc_neg tp_31zz
    refine lv_istore_n (lv' := [(2, .int r_18), (0, .ref (ga G 4)), (1, .int (nI n9))]) hx hb dX5_typeProgram_16 rfl hl (by decide) rfl (fun ls hl => ?_)
    refine lv_aload_n hx hb dX5_typeProgram_17 rfl (lv_at hl 1 rfl) ?_
    refine lv_iload_n hx hb dX5_typeProgram_18 rfl (lv_at hl 0 rfl) ?_
    refine lv_if_ge (tgt := 26) hx hb dX5_typeProgram_19 (by decide) (fun c_53 => absurd c_53 (Int32.not_le.mpr tp_31ng)) (fun c_53 => ?_)
    refine lv_iload_n hx hb dX5_typeProgram_22 rfl (lv_at hl 0 rfl) ?_
    refine lv_goto (tgt := 27) hx hb dX5_typeProgram_23 (by decide) ?_
    refine c_put4_14 (x := r_18) hx hb htu hown hK hP hD hS (htu _ C_59) dX5_typeProgram_27 (fun H locs hP hD hS => ?_)
    have S_54h : HS S (cO S_19 14 r_18) := hh
    have S_54c : CL (cO S_19 14 r_18) := hC
    have S_54p : PT S ≤ PT (cO S_19 14 r_18) := hpp
    refine c_eq (S1 := S_19) (S2 := cO S_19 14 r_18) rfl ?_
    have S_54w : AW [6, 7, 8, 9, 16, 14, 10, 11, 12, 13, 17, 18, 23, 24, 25, 26, 35, 19, 20, 21, 22] [8, 9, 10, 11, 12, 13, 14, 201, 300] S (cO S_19 14 r_18) := (AW.o aw_22t (by decide))
    have hh := S_54h
    have hC := S_54c
    clear hpp
    have hpp := S_54p
    clear S_54p
    have tj_55 : TJ (cO S_19 14 r_18) N := tj_30
    have ty_56 : TY (cO S_19 14 r_18) tp_31T tp_31V tp_31V tp_31X tp_31Y tp_31Z := tp_31t
    have tp_31kl : KL (cO S_19 14 r_18) tp_31R.1 tp_31t9 := ⟨tp_31yc.1, tp_31yc.2.2.1, (cO_n (by decide)).trans tp_31yc.2.2.2.1, tp_31yc.2.2.2.2.2.2.1, (cO_n (by decide)).trans (tp_31p2.trans (wc_p tp_31zz tp_31p3).symm)⟩
    have tp_31le : tp_31t9 ≤ tm + 1500 + cntT tr 60 n9 := by have := tp_31yc.2.2.2.2.1; omega
    have tp_3114 : (cO S_19 14 r_18).1 14 = sc (sto tp_31R.1) := cO_s.trans tp_31v
    refine lv_aload_n hx hb dX5_typeProgram_30 rfl (lv_at hl 1 rfl) ?_
    refine va_get (D := gD G) (ci := 5) (v := .int r_18) (C := RX5) (T := TX5) (N := 15) hx hb htu cu_in5 hown hK hP 4 cw_4 rfl 14 (by decide) (htu _ C_59) (fun _ h9 => h9) (m_v cO_s) dX5_typeProgram_31 ?_
    refine lv_if_eq (tgt := 42) hx hb dX5_typeProgram_34 (by decide) (fun c_57 => absurd c_57 (fun h => by rw [h] at tp_31ng; exact absurd tp_31ng (by decide))) (fun c_57 => ?_)
    refine lv_aload_n hx hb dX5_typeProgram_37 rfl (lv_at hl 1 rfl) ?_
    refine va_get (D := gD G) (ci := 5) (v := .int r_18) (C := RX5) (T := TX5) (N := 15) hx hb htu cu_in5 hown hK hP 4 cw_4 rfl 14 (by decide) (htu _ C_59) (fun _ h9 => h9) (m_v cO_s) dX5_typeProgram_38 ?_
    exact c_iret (v := r_18) hx hb hr hK hP hD hS hC hh hpp ⟨S_54w, ⟨⟨⟨_, _, _, _, _, ty_56⟩, ⟨kk_23, kk_24, kk_25, kk_26⟩, _, ((cO_n (show 201 ≠ 14 by decide)).trans ii_27), hsm⟩, by rw [tp_31e]; exact ⟨⟨tp_31t9, tp_31kl, tp_31le⟩, (tp_31v.trans (by unfold tans; rw [if_neg tp_31zz])), tp_3114⟩⟩⟩ dX5_typeProgram_41 hlocks

