/-- the class's signs behind work -/
def SV9 (u : cS) (tr : aM) (r : wmS × Nat) : Prop := hlt r.1 = 0 → SG u 402 (wmt tr r.1 200 r.2 [])

set_option maxHeartbeats 4000000 in
set_option maxRecDepth 100000 in
/-- startAnew -/
theorem xv_startAnew (l : Launch) (G : cG) (S : cS) (al : Nat) (hC : CL S) (hal : al ≤ 300) (Hs : Heap) : Met l yX6_startAnew (wC yX6_startAnew cX6_startAnew 2 none) (cRm S 1 21) (cPc G S Hs [.ref (ga G 5), .int (nI al)]) (cQv G S Hs (fun u => AW [27, 28, 29, 30, 31, 32, 33, 34] [110, 111, 112, 202] S u ∧ (RCw u wm0 al 0 ∧ SG u 402 [] ∧ u.1 112 = -9))) (CC - PT S) (12 * (CC - PT S)) (cA G S Hs.size) := by
  refine Met.ofW (cc := cX6_startAnew) (maxL := 2) (ret := none) (by decide) rfl ?_
  intro p e s m args below meth c s₁ B hml hv
  obtain ⟨rfl, hsz, hP, hK, hD0, -⟩ := hv
  have hx := B.exec
  have hb := B.bytes
  have hr := B.returns
  have htu : ∀ w ∈ CU, w.before _ s = true := fun w h => atoms_spec (ws := (wC yX6_startAnew cX6_startAnew 2 none)) B.pre w (List.mem_cons_of_mem _ h)
  have hown : s.vm.findClass RX6 = some m.cls := findClass_of_methodNamed B.named
  have hlocks := B.notSynchronized
  subst hsz
  have hD : cD (cA G S s.heap.size) G S := cD_self hD0
  have hl := lv_entry ([.ref (ga G 5), .int (nI al)]) (n := 2) (Nat.le_of_ble_eq_true rfl)
  rw [lg_entry_eq]
  generalize (lg_sl ([.ref (ga G 5), .int (nI al)]) ++ List.replicate (2 - (lg_sl ([.ref (ga G 5), .int (nI al)])).length) Slot.unset).toArray = ls at hl ⊢
  have hl : lv_has ls 2 [(0, .ref (ga G 5)), (1, .int (nI al))] := hl
  obtain ⟨H, hHe⟩ : ∃ H : Heap, H = s.heap := ⟨_, rfl⟩
  rw [← hHe] at hP
  have hS : va_S (cA G S s.heap.size) s.heap H [] := by rw [hHe]; exact va_S.rf
  have hh : HS S S := HS.rf
  have hpp : PT S ≤ PT S := Nat.le_refl _
  have hB9 := hC.1
  refine W.heq hHe ?_
  refine c_ent (S := S) ?_
  refine lv_aload_n hx hb dX6_startAnew_0 rfl (lv_at hl 0 rfl) ?_
  refine va_get (D := gD G) (ci := 6) (v := .ref (kH S 27)) (C := RX6) (T := TX6) (N := 14) hx hb htu cu_in6 hown hK hP 5 cw_5 rfl 2 (by decide) (htu _ C_152) (fun _ h9 => h9) rfl dX6_startAnew_1 ?_
  refine lv_iconst (v := 0) hx hb dX6_startAnew_4 (by decide) ?_
  have hC0 := hC
  refine c_cv (c_runV (As := [.int 0]) (rest := []) (q0 := (2 * 27 + 13)) (ci := 0) ⟨hx, hb, hml, hown, htu⟩ (c_cutA l G S 27 (lt35 (by decide)) hC (kH S 27) rfl 0 H) (cwV 1 htu hU_X6_70 rfl rfl rfl (by decide +kernel) ⟨Nat.le_of_ble_eq_true rfl, Nat.le_of_ble_eq_true rfl⟩) hP hK hD hC hpp (c_hd rfl (cw_row (lt35 (by decide)))) rfl rfl hl.1 rfl (lv_room (Nat.le_of_ble_eq_true rfl)) dX6_startAnew_5) hS hD hh hpp (fun S_2 H locs hw_3 hP hD hS hC hh hs_4 hpp => ?_)
  try dsimp only at hw_3
  have aw_5 : AW [27] [] S S_2 := (by rw [hw_3]; exact AW.u (by decide))
  have aw_5t : AW [27, 28, 29, 30, 31, 32, 33, 34] [110, 111, 112, 202] S S_2 := AW.rf.tr (aw_5.mono (by decide) (by decide))
  have kk_6 : kK S_2 27 = 0 := by rw [hw_3]; exact uR_K.trans (rcut_0 _ (by have := hC0.2 27 (lt35 (by decide)); have := lim_le 27; omega))
  refine lv_aload_n hx hb dX6_startAnew_8 rfl (lv_at hl 0 rfl) ?_
  refine va_get (D := gD G) (ci := 6) (v := .ref (kH S 28)) (C := RX6) (T := TX6) (N := 14) hx hb htu cu_in6 hown hK hP 5 cw_5 rfl 3 (by decide) (htu _ C_153) (fun _ h9 => h9) (c_hv (hh.2 28 (lt35 (by decide)))) dX6_startAnew_9 ?_
  refine lv_iconst (v := 0) hx hb dX6_startAnew_12 (by decide) ?_
  have hC0 := hC
  refine c_cv (c_runV (As := [.int 0]) (rest := []) (q0 := (2 * 28 + 13)) (ci := 0) ⟨hx, hb, hml, hown, htu⟩ (c_cutA l G S_2 28 (lt35 (by decide)) hC (kH S 28) (hh.2 28 (lt35 (by decide))) 0 H) (cwV 1 htu hU_X6_70 rfl rfl rfl (by decide +kernel) ⟨Nat.le_of_ble_eq_true rfl, Nat.le_of_ble_eq_true rfl⟩) hP hK hD hC hpp (c_hd (hh.2 28 (lt35 (by decide))) (cw_row (lt35 (by decide)))) rfl rfl hl.1 rfl (lv_room (Nat.le_of_ble_eq_true rfl)) dX6_startAnew_13) hS hD hh hpp (fun S_8 H locs hw_9 hP hD hS hC hh hs_10 hpp => ?_)
  try dsimp only at hw_9
  have aw_11 : AW [28] [] S_2 S_8 := (by rw [hw_9]; exact AW.u (by decide))
  have aw_11t : AW [27, 28, 29, 30, 31, 32, 33, 34] [110, 111, 112, 202] S S_8 := aw_5t.tr (aw_11.mono (by decide) (by decide))
  have kk_12 : kK S_8 27 = 0 := (aw_11.2.1 27 (lt35 (by decide)) (by decide)).2.trans kk_6
  have kk_13 : kK S_8 28 = 0 := by rw [hw_9]; exact uR_K.trans (rcut_0 _ (by have := hC0.2 28 (lt35 (by decide)); have := lim_le 28; omega))
  refine lv_aload_n hx hb dX6_startAnew_16 rfl (lv_at hl 0 rfl) ?_
  refine va_get (D := gD G) (ci := 6) (v := .ref (kH S 29)) (C := RX6) (T := TX6) (N := 14) hx hb htu cu_in6 hown hK hP 5 cw_5 rfl 4 (by decide) (htu _ C_154) (fun _ h9 => h9) (c_hv (hh.2 29 (lt35 (by decide)))) dX6_startAnew_17 ?_
  refine lv_iconst (v := 0) hx hb dX6_startAnew_20 (by decide) ?_
  have hC0 := hC
  refine c_cv (c_runV (As := [.int 0]) (rest := []) (q0 := (2 * 29 + 13)) (ci := 0) ⟨hx, hb, hml, hown, htu⟩ (c_cutA l G S_8 29 (lt35 (by decide)) hC (kH S 29) (hh.2 29 (lt35 (by decide))) 0 H) (cwV 1 htu hU_X6_70 rfl rfl rfl (by decide +kernel) ⟨Nat.le_of_ble_eq_true rfl, Nat.le_of_ble_eq_true rfl⟩) hP hK hD hC hpp (c_hd (hh.2 29 (lt35 (by decide))) (cw_row (lt35 (by decide)))) rfl rfl hl.1 rfl (lv_room (Nat.le_of_ble_eq_true rfl)) dX6_startAnew_21) hS hD hh hpp (fun S_15 H locs hw_16 hP hD hS hC hh hs_17 hpp => ?_)
  try dsimp only at hw_16
  have aw_18 : AW [29] [] S_8 S_15 := (by rw [hw_16]; exact AW.u (by decide))
  have aw_18t : AW [27, 28, 29, 30, 31, 32, 33, 34] [110, 111, 112, 202] S S_15 := aw_11t.tr (aw_18.mono (by decide) (by decide))
  have kk_19 : kK S_15 27 = 0 := (aw_18.2.1 27 (lt35 (by decide)) (by decide)).2.trans kk_12
  have kk_20 : kK S_15 28 = 0 := (aw_18.2.1 28 (lt35 (by decide)) (by decide)).2.trans kk_13
  have kk_21 : kK S_15 29 = 0 := by rw [hw_16]; exact uR_K.trans (rcut_0 _ (by have := hC0.2 29 (lt35 (by decide)); have := lim_le 29; omega))
  refine lv_aload_n hx hb dX6_startAnew_24 rfl (lv_at hl 0 rfl) ?_
  refine va_get (D := gD G) (ci := 6) (v := .ref (kH S 30)) (C := RX6) (T := TX6) (N := 14) hx hb htu cu_in6 hown hK hP 5 cw_5 rfl 5 (by decide) (htu _ C_155) (fun _ h9 => h9) (c_hv (hh.2 30 (lt35 (by decide)))) dX6_startAnew_25 ?_
  refine lv_iconst (v := 0) hx hb dX6_startAnew_28 (by decide) ?_
  have hC0 := hC
  refine c_cv (c_runV (As := [.int 0]) (rest := []) (q0 := (2 * 30 + 13)) (ci := 0) ⟨hx, hb, hml, hown, htu⟩ (c_cutA l G S_15 30 (lt35 (by decide)) hC (kH S 30) (hh.2 30 (lt35 (by decide))) 0 H) (cwV 1 htu hU_X6_70 rfl rfl rfl (by decide +kernel) ⟨Nat.le_of_ble_eq_true rfl, Nat.le_of_ble_eq_true rfl⟩) hP hK hD hC hpp (c_hd (hh.2 30 (lt35 (by decide))) (cw_row (lt35 (by decide)))) rfl rfl hl.1 rfl (lv_room (Nat.le_of_ble_eq_true rfl)) dX6_startAnew_29) hS hD hh hpp (fun S_23 H locs hw_24 hP hD hS hC hh hs_25 hpp => ?_)
  try dsimp only at hw_24
  have aw_26 : AW [30] [] S_15 S_23 := (by rw [hw_24]; exact AW.u (by decide))
  have aw_26t : AW [27, 28, 29, 30, 31, 32, 33, 34] [110, 111, 112, 202] S S_23 := aw_18t.tr (aw_26.mono (by decide) (by decide))
  have kk_27 : kK S_23 27 = 0 := (aw_26.2.1 27 (lt35 (by decide)) (by decide)).2.trans kk_19
  have kk_28 : kK S_23 28 = 0 := (aw_26.2.1 28 (lt35 (by decide)) (by decide)).2.trans kk_20
  have kk_29 : kK S_23 29 = 0 := (aw_26.2.1 29 (lt35 (by decide)) (by decide)).2.trans kk_21
  have kk_30 : kK S_23 30 = 0 := by rw [hw_24]; exact uR_K.trans (rcut_0 _ (by have := hC0.2 30 (lt35 (by decide)); have := lim_le 30; omega))
  refine lv_aload_n hx hb dX6_startAnew_32 rfl (lv_at hl 0 rfl) ?_
  refine va_get (D := gD G) (ci := 6) (v := .ref (kH S 31)) (C := RX6) (T := TX6) (N := 14) hx hb htu cu_in6 hown hK hP 5 cw_5 rfl 6 (by decide) (htu _ C_156) (fun _ h9 => h9) (c_hv (hh.2 31 (lt35 (by decide)))) dX6_startAnew_33 ?_
  refine lv_iconst (v := 0) hx hb dX6_startAnew_36 (by decide) ?_
  have hC0 := hC
  refine c_cv (c_runV (As := [.int 0]) (rest := []) (q0 := (2 * 31 + 13)) (ci := 0) ⟨hx, hb, hml, hown, htu⟩ (c_cutA l G S_23 31 (lt35 (by decide)) hC (kH S 31) (hh.2 31 (lt35 (by decide))) 0 H) (cwV 1 htu hU_X6_70 rfl rfl rfl (by decide +kernel) ⟨Nat.le_of_ble_eq_true rfl, Nat.le_of_ble_eq_true rfl⟩) hP hK hD hC hpp (c_hd (hh.2 31 (lt35 (by decide))) (cw_row (lt35 (by decide)))) rfl rfl hl.1 rfl (lv_room (Nat.le_of_ble_eq_true rfl)) dX6_startAnew_37) hS hD hh hpp (fun S_32 H locs hw_33 hP hD hS hC hh hs_34 hpp => ?_)
  try dsimp only at hw_33
  have aw_35 : AW [31] [] S_23 S_32 := (by rw [hw_33]; exact AW.u (by decide))
  have aw_35t : AW [27, 28, 29, 30, 31, 32, 33, 34] [110, 111, 112, 202] S S_32 := aw_26t.tr (aw_35.mono (by decide) (by decide))
  have kk_36 : kK S_32 27 = 0 := (aw_35.2.1 27 (lt35 (by decide)) (by decide)).2.trans kk_27
  have kk_37 : kK S_32 28 = 0 := (aw_35.2.1 28 (lt35 (by decide)) (by decide)).2.trans kk_28
  have kk_38 : kK S_32 29 = 0 := (aw_35.2.1 29 (lt35 (by decide)) (by decide)).2.trans kk_29
  have kk_39 : kK S_32 30 = 0 := (aw_35.2.1 30 (lt35 (by decide)) (by decide)).2.trans kk_30
  have kk_40 : kK S_32 31 = 0 := by rw [hw_33]; exact uR_K.trans (rcut_0 _ (by have := hC0.2 31 (lt35 (by decide)); have := lim_le 31; omega))
  refine lv_aload_n hx hb dX6_startAnew_40 rfl (lv_at hl 0 rfl) ?_
  refine va_get (D := gD G) (ci := 6) (v := .ref (kH S 32)) (C := RX6) (T := TX6) (N := 14) hx hb htu cu_in6 hown hK hP 5 cw_5 rfl 7 (by decide) (htu _ C_157) (fun _ h9 => h9) (c_hv (hh.2 32 (lt35 (by decide)))) dX6_startAnew_41 ?_
  refine lv_iconst (v := 0) hx hb dX6_startAnew_44 (by decide) ?_
  have hC0 := hC
  refine c_cv (c_runV (As := [.int 0]) (rest := []) (q0 := (2 * 32 + 13)) (ci := 0) ⟨hx, hb, hml, hown, htu⟩ (c_cutA l G S_32 32 (lt35 (by decide)) hC (kH S 32) (hh.2 32 (lt35 (by decide))) 0 H) (cwV 1 htu hU_X6_70 rfl rfl rfl (by decide +kernel) ⟨Nat.le_of_ble_eq_true rfl, Nat.le_of_ble_eq_true rfl⟩) hP hK hD hC hpp (c_hd (hh.2 32 (lt35 (by decide))) (cw_row (lt35 (by decide)))) rfl rfl hl.1 rfl (lv_room (Nat.le_of_ble_eq_true rfl)) dX6_startAnew_45) hS hD hh hpp (fun S_42 H locs hw_43 hP hD hS hC hh hs_44 hpp => ?_)
  try dsimp only at hw_43
  have aw_45 : AW [32] [] S_32 S_42 := (by rw [hw_43]; exact AW.u (by decide))
  have aw_45t : AW [27, 28, 29, 30, 31, 32, 33, 34] [110, 111, 112, 202] S S_42 := aw_35t.tr (aw_45.mono (by decide) (by decide))
  have kk_46 : kK S_42 27 = 0 := (aw_45.2.1 27 (lt35 (by decide)) (by decide)).2.trans kk_36
  have kk_47 : kK S_42 28 = 0 := (aw_45.2.1 28 (lt35 (by decide)) (by decide)).2.trans kk_37
  have kk_48 : kK S_42 29 = 0 := (aw_45.2.1 29 (lt35 (by decide)) (by decide)).2.trans kk_38
  have kk_49 : kK S_42 30 = 0 := (aw_45.2.1 30 (lt35 (by decide)) (by decide)).2.trans kk_39
  have kk_50 : kK S_42 31 = 0 := (aw_45.2.1 31 (lt35 (by decide)) (by decide)).2.trans kk_40
  have kk_51 : kK S_42 32 = 0 := by rw [hw_43]; exact uR_K.trans (rcut_0 _ (by have := hC0.2 32 (lt35 (by decide)); have := lim_le 32; omega))
  refine lv_aload_n hx hb dX6_startAnew_48 rfl (lv_at hl 0 rfl) ?_
  refine va_get (D := gD G) (ci := 6) (v := .ref (kH S 33)) (C := RX6) (T := TX6) (N := 14) hx hb htu cu_in6 hown hK hP 5 cw_5 rfl 8 (by decide) (htu _ C_158) (fun _ h9 => h9) (c_hv (hh.2 33 (lt35 (by decide)))) dX6_startAnew_49 ?_
  refine lv_iconst (v := 0) hx hb dX6_startAnew_52 (by decide) ?_
  have hC0 := hC
  refine c_cv (c_runV (As := [.int 0]) (rest := []) (q0 := (2 * 33 + 13)) (ci := 0) ⟨hx, hb, hml, hown, htu⟩ (c_cutA l G S_42 33 (lt35 (by decide)) hC (kH S 33) (hh.2 33 (lt35 (by decide))) 0 H) (cwV 1 htu hU_X6_70 rfl rfl rfl (by decide +kernel) ⟨Nat.le_of_ble_eq_true rfl, Nat.le_of_ble_eq_true rfl⟩) hP hK hD hC hpp (c_hd (hh.2 33 (lt35 (by decide))) (cw_row (lt35 (by decide)))) rfl rfl hl.1 rfl (lv_room (Nat.le_of_ble_eq_true rfl)) dX6_startAnew_53) hS hD hh hpp (fun S_53 H locs hw_54 hP hD hS hC hh hs_55 hpp => ?_)
  try dsimp only at hw_54
  have aw_56 : AW [33] [] S_42 S_53 := (by rw [hw_54]; exact AW.u (by decide))
  have aw_56t : AW [27, 28, 29, 30, 31, 32, 33, 34] [110, 111, 112, 202] S S_53 := aw_45t.tr (aw_56.mono (by decide) (by decide))
  have kk_57 : kK S_53 27 = 0 := (aw_56.2.1 27 (lt35 (by decide)) (by decide)).2.trans kk_46
  have kk_58 : kK S_53 28 = 0 := (aw_56.2.1 28 (lt35 (by decide)) (by decide)).2.trans kk_47
  have kk_59 : kK S_53 29 = 0 := (aw_56.2.1 29 (lt35 (by decide)) (by decide)).2.trans kk_48
  have kk_60 : kK S_53 30 = 0 := (aw_56.2.1 30 (lt35 (by decide)) (by decide)).2.trans kk_49
  have kk_61 : kK S_53 31 = 0 := (aw_56.2.1 31 (lt35 (by decide)) (by decide)).2.trans kk_50
  have kk_62 : kK S_53 32 = 0 := (aw_56.2.1 32 (lt35 (by decide)) (by decide)).2.trans kk_51
  have kk_63 : kK S_53 33 = 0 := by rw [hw_54]; exact uR_K.trans (rcut_0 _ (by have := hC0.2 33 (lt35 (by decide)); have := lim_le 33; omega))
  refine lv_aload_n hx hb dX6_startAnew_56 rfl (lv_at hl 0 rfl) ?_
  refine va_get (D := gD G) (ci := 6) (v := .ref (kH S 34)) (C := RX6) (T := TX6) (N := 14) hx hb htu cu_in6 hown hK hP 5 cw_5 rfl 9 (by decide) (htu _ C_159) (fun _ h9 => h9) (c_hv (hh.2 34 (lt35 (by decide)))) dX6_startAnew_57 ?_
  refine lv_iconst (v := 0) hx hb dX6_startAnew_60 (by decide) ?_
  have hC0 := hC
  refine c_cv (c_runV (As := [.int 0]) (rest := []) (q0 := (2 * 34 + 13)) (ci := 0) ⟨hx, hb, hml, hown, htu⟩ (c_cutA l G S_53 34 (lt35 (by decide)) hC (kH S 34) (hh.2 34 (lt35 (by decide))) 0 H) (cwV 1 htu hU_X6_70 rfl rfl rfl (by decide +kernel) ⟨Nat.le_of_ble_eq_true rfl, Nat.le_of_ble_eq_true rfl⟩) hP hK hD hC hpp (c_hd (hh.2 34 (lt35 (by decide))) (cw_row (lt35 (by decide)))) rfl rfl hl.1 rfl (lv_room (Nat.le_of_ble_eq_true rfl)) dX6_startAnew_61) hS hD hh hpp (fun S_65 H locs hw_66 hP hD hS hC hh hs_67 hpp => ?_)
  try dsimp only at hw_66
  have aw_68 : AW [34] [] S_53 S_65 := (by rw [hw_66]; exact AW.u (by decide))
  have aw_68t : AW [27, 28, 29, 30, 31, 32, 33, 34] [110, 111, 112, 202] S S_65 := aw_56t.tr (aw_68.mono (by decide) (by decide))
  have kk_69 : kK S_65 27 = 0 := (aw_68.2.1 27 (lt35 (by decide)) (by decide)).2.trans kk_57
  have kk_70 : kK S_65 28 = 0 := (aw_68.2.1 28 (lt35 (by decide)) (by decide)).2.trans kk_58
  have kk_71 : kK S_65 29 = 0 := (aw_68.2.1 29 (lt35 (by decide)) (by decide)).2.trans kk_59
  have kk_72 : kK S_65 30 = 0 := (aw_68.2.1 30 (lt35 (by decide)) (by decide)).2.trans kk_60
  have kk_73 : kK S_65 31 = 0 := (aw_68.2.1 31 (lt35 (by decide)) (by decide)).2.trans kk_61
  have kk_74 : kK S_65 32 = 0 := (aw_68.2.1 32 (lt35 (by decide)) (by decide)).2.trans kk_62
  have kk_75 : kK S_65 33 = 0 := (aw_68.2.1 33 (lt35 (by decide)) (by decide)).2.trans kk_63
  have kk_76 : kK S_65 34 = 0 := by rw [hw_66]; exact uR_K.trans (rcut_0 _ (by have := hC0.2 34 (lt35 (by decide)); have := lim_le 34; omega))
  refine lv_aload_n hx hb dX6_startAnew_64 rfl (lv_at hl 0 rfl) ?_
  refine va_get (D := gD G) (ci := 6) (v := .ref (ga G 8)) (C := RX6) (T := TX6) (N := 14) hx hb htu cu_in6 hown hK hP 5 cw_5 rfl 1 (by decide) (htu _ C_150) (fun _ h9 => h9) rfl dX6_startAnew_65 ?_
  have hC0 := hC
  refine c_cv (c_runV (As := []) (rest := []) (q0 := 8) (ci := 1) ⟨hx, hb, hml, hown, htu⟩ (xs_clear_8 l G S_65  hC  H) (cwV 0 htu hU_X6_73 rfl rfl rfl (by decide +kernel) ⟨Nat.le_of_ble_eq_true rfl, Nat.le_of_ble_eq_true rfl⟩) hP hK hD hC hpp cw_8 rfl rfl hl.1 rfl (lv_room (Nat.le_of_ble_eq_true rfl)) dX6_startAnew_68) hS hD hh hpp (fun S_78 H locs hw_79 hP hD hS hC hh hs_80 hpp => ?_)
  try dsimp only at hw_79
  have aw_81 : AW [] [202] S_65 S_78 := hw_79.1
  have aw_81t : AW [27, 28, 29, 30, 31, 32, 33, 34] [110, 111, 112, 202] S S_78 := aw_68t.tr (aw_81.mono (by decide) (by decide))
  have kk_82 : kK S_78 27 = 0 := (aw_81.2.1 27 (lt35 (by decide)) (by decide)).2.trans kk_69
  have kk_83 : kK S_78 28 = 0 := (aw_81.2.1 28 (lt35 (by decide)) (by decide)).2.trans kk_70
  have kk_84 : kK S_78 29 = 0 := (aw_81.2.1 29 (lt35 (by decide)) (by decide)).2.trans kk_71
  have kk_85 : kK S_78 30 = 0 := (aw_81.2.1 30 (lt35 (by decide)) (by decide)).2.trans kk_72
  have kk_86 : kK S_78 31 = 0 := (aw_81.2.1 31 (lt35 (by decide)) (by decide)).2.trans kk_73
  have kk_87 : kK S_78 32 = 0 := (aw_81.2.1 32 (lt35 (by decide)) (by decide)).2.trans kk_74
  have kk_88 : kK S_78 33 = 0 := (aw_81.2.1 33 (lt35 (by decide)) (by decide)).2.trans kk_75
  have kk_89 : kK S_78 34 = 0 := (aw_81.2.1 34 (lt35 (by decide)) (by decide)).2.trans kk_76
  have cl_90 : SG S_78 402 [] := hw_79.2
  refine lv_aload_n hx hb dX6_startAnew_71 rfl (lv_at hl 0 rfl) ?_
  refine lv_iload_n hx hb dX6_startAnew_72 rfl (lv_at hl 1 rfl) ?_
  refine c_put5_10 (x := (nI al)) hx hb htu hown hK hP hD hS (htu _ C_542) dX6_startAnew_73 (fun H locs hP hD hS => ?_)
  have S_91h : HS S (cO S_78 110 (nI al)) := hh
  have S_91c : CL (cO S_78 110 (nI al)) := hC
  have S_91p : PT S ≤ PT (cO S_78 110 (nI al)) := hpp
  refine c_eq (S1 := S_78) (S2 := cO S_78 110 (nI al)) rfl ?_
  have S_91w : AW [27, 28, 29, 30, 31, 32, 33, 34] [110, 111, 112, 202] S (cO S_78 110 (nI al)) := (AW.o aw_81t (by decide))
  have hh := S_91h
  have hC := S_91c
  have hpp := S_91p
  refine lv_aload_n hx hb dX6_startAnew_76 rfl (lv_at hl 0 rfl) ?_
  refine lv_iconst (v := 0) hx hb dX6_startAnew_77 (by decide) ?_
  refine c_put5_11 (x := 0) hx hb htu hown hK hP hD hS (htu _ C_543) dX6_startAnew_78 (fun H locs hP hD hS => ?_)
  have S_92h : HS S (cO (cO S_78 110 (nI al)) 111 0) := hh
  have S_92c : CL (cO (cO S_78 110 (nI al)) 111 0) := hC
  have S_92p : PT S ≤ PT (cO (cO S_78 110 (nI al)) 111 0) := hpp
  refine c_eq (S1 := (cO S_78 110 (nI al))) (S2 := cO (cO S_78 110 (nI al)) 111 0) rfl ?_
  have S_92w : AW [27, 28, 29, 30, 31, 32, 33, 34] [110, 111, 112, 202] S (cO (cO S_78 110 (nI al)) 111 0) := (AW.o S_91w (by decide))
  have hh := S_92h
  have hC := S_92c
  have hpp := S_92p
  refine lv_aload_n hx hb dX6_startAnew_81 rfl (lv_at hl 0 rfl) ?_
  refine lv_bipush (v := (-9)) hx hb dX6_startAnew_82 (by decide) ?_
  refine c_put5_12 (x := ((-9))) hx hb htu hown hK hP hD hS (htu _ C_160) dX6_startAnew_84 (fun H locs hP hD hS => ?_)
  have S_93h : HS S (cO (cO (cO S_78 110 (nI al)) 111 0) 112 ((-9))) := hh
  have S_93c : CL (cO (cO (cO S_78 110 (nI al)) 111 0) 112 ((-9))) := hC
  have S_93p : PT S ≤ PT (cO (cO (cO S_78 110 (nI al)) 111 0) 112 ((-9))) := hpp
  refine c_eq (S1 := (cO (cO S_78 110 (nI al)) 111 0)) (S2 := cO (cO (cO S_78 110 (nI al)) 111 0) 112 ((-9))) rfl ?_
  have S_93w : AW [27, 28, 29, 30, 31, 32, 33, 34] [110, 111, 112, 202] S (cO (cO (cO S_78 110 (nI al)) 111 0) 112 ((-9))) := (AW.o S_92w (by decide))
  have hh := S_93h
  have hC := S_93c
  have hpp := S_93p
  exact c_vret hx hb hr hK hP hD hS hC hh hpp ⟨S_93w, ⟨⟨⟨⟨kk_82, kk_83, kk_84⟩, kk_85, ⟨kk_86, kk_87, kk_88, kk_89⟩, ((cO_n (show 110 ≠ 112 by decide)).trans ((cO_n (show 110 ≠ 111 by decide)).trans cO_s)), ((cO_n (show 111 ≠ 112 by decide)).trans cO_s), Nat.zero_le _, hal, Nat.le_refl _, Nat.le_refl _, Nat.le_refl _⟩, (fun v h => absurd h (Nat.not_lt_zero _)), (fun v h => absurd h (Nat.not_lt_zero _))⟩, ⟨((cO_n (show 202 ≠ 112 by decide)).trans ((cO_n (show 202 ≠ 111 by decide)).trans ((cO_n (show 202 ≠ 110 by decide)).trans cl_90.1))), fun j hj => absurd hj (Nat.not_lt_zero _)⟩, cO_s⟩⟩ dX6_startAnew_87 hlocks

set_option maxHeartbeats 4000000 in
set_option maxRecDepth 100000 in
/-- workProgram -/
theorem xv_workProgram (l : Launch) (G : cG) (S : cS) (N : Nat) (tr : aM) (dp : Nat → Nat) (mk : Nat → Int32) (al : Nat) (n9 : Nat) (hC : CL S) (hT : TJ S N) (hE : TC S tr mk N) (hTm : wmT tr N dp) (hal : al ≤ 300) (hn : n9 < N) (Hs : Heap) : Met l yX6_workProgram (wC yX6_workProgram cX6_workProgram 4 (some .int)) (cRm S 300 12000) (cPc G S Hs [.ref (ga G 5), .int (nI n9), .int (nI al)]) (cQi G S Hs (fun v u => AW [27, 28, 29, 30, 31, 32, 33, 34] [110, 111, 112, 113, 202] S u ∧ ((∃ sm, u.1 202 = nI sm ∧ sm ≤ 200) ∧ WO9 u (wmo tr mk al n9) v ∧ SV9 u tr (wmo tr mk al n9)))) (CC - PT S) (12 * (CC - PT S)) (cA G S Hs.size) := by
  refine Met.ofW (cc := cX6_workProgram) (maxL := 4) (ret := (some .int)) (by decide) rfl ?_
  intro p e s m args below meth c s₁ B hml hv
  obtain ⟨rfl, hsz, hP, hK, hD0, -⟩ := hv
  have hx := B.exec
  have hb := B.bytes
  have hr := B.returns
  have htu : ∀ w ∈ CU, w.before _ s = true := fun w h => atoms_spec (ws := (wC yX6_workProgram cX6_workProgram 4 (some .int))) B.pre w (List.mem_cons_of_mem _ h)
  have hown : s.vm.findClass RX6 = some m.cls := findClass_of_methodNamed B.named
  have hlocks := B.notSynchronized
  subst hsz
  have hD : cD (cA G S s.heap.size) G S := cD_self hD0
  have hl := lv_entry ([.ref (ga G 5), .int (nI n9), .int (nI al)]) (n := 4) (Nat.le_of_ble_eq_true rfl)
  rw [lg_entry_eq]
  generalize (lg_sl ([.ref (ga G 5), .int (nI n9), .int (nI al)]) ++ List.replicate (4 - (lg_sl ([.ref (ga G 5), .int (nI n9), .int (nI al)])).length) Slot.unset).toArray = ls at hl ⊢
  have hl : lv_has ls 4 [(0, .ref (ga G 5)), (1, .int (nI n9)), (2, .int (nI al))] := hl
  obtain ⟨H, hHe⟩ : ∃ H : Heap, H = s.heap := ⟨_, rfl⟩
  rw [← hHe] at hP
  have hS : va_S (cA G S s.heap.size) s.heap H [] := by rw [hHe]; exact va_S.rf
  have hh : HS S S := HS.rf
  have hpp : PT S ≤ PT S := Nat.le_refl _
  have hB9 := hC.1
  refine W.heq hHe ?_
  refine c_ent (S := S) ?_
  refine lv_aload_n hx hb dX6_workProgram_0 rfl (lv_at hl 0 rfl) ?_
  refine lv_iload_n hx hb dX6_workProgram_1 rfl (lv_at hl 2 rfl) ?_
  have hC0 := hC
  refine c_cv (c_runV (As := [.int (nI al)]) (rest := []) (q0 := 5) (ci := 6) ⟨hx, hb, hml, hown, htu⟩ (xv_startAnew l G S al hC hal H) (cwV 1 htu hU_X6_59 rfl rfl rfl (by decide +kernel) ⟨show 1 + 1 ≤ 300 by omega, show 8 + (2 + 11) + 21 ≤ 12000 by omega⟩) hP hK hD hC hpp cw_5 rfl rfl hl.1 rfl (lv_room (Nat.le_of_ble_eq_true rfl)) dX6_workProgram_2) hS hD hh hpp (fun S_2 H locs hw_3 hP hD hS hC hh hs_4 hpp => ?_)
  try dsimp only at hw_3
  have aw_5 : AW [27, 28, 29, 30, 31, 32, 33, 34] [110, 111, 112, 202] S S_2 := hw_3.1
  have aw_5t : AW [27, 28, 29, 30, 31, 32, 33, 34] [110, 111, 112, 113, 202] S S_2 := AW.rf.tr (aw_5.mono (by decide) (by decide))
  have tj_6 : TJ S_2 N := TJ.aw hT aw_5 (by decide)
  have te_7 : TC S_2 tr mk N := hE.aw aw_5 (by decide)
  refine lv_aload_n hx hb dX6_workProgram_5 rfl (lv_at hl 0 rfl) ?_
  refine lv_iload_n hx hb dX6_workProgram_6 rfl (lv_at hl 1 rfl) ?_
  refine lv_bipush (v := (-9)) hx hb dX6_workProgram_7 (by decide) ?_
  refine lv_iconst (v := 1) hx hb dX6_workProgram_9 (by decide) ?_
  have hC0 := hC
  refine c_ci (c_runV (As := [.int (nI n9), .int ((-9)), .int 1]) (rest := []) (q0 := 5) (ci := 6) ⟨hx, hb, hml, hown, htu⟩ ((x_run_all 60) l G S_2 wm0 al 0 tr N dp mk 1 n9 0 hC hw_3.2.1 tj_6 te_7 wm0_W hTm rfl hn ((Nat.le_refl _)) ((Nat.zero_le _)) ((show 1 + 60 = 61 by decide)) H) (cwV 3 htu hU_X6_62 rfl rfl rfl (by decide +kernel) ⟨show (2 * 60 + 6) + 1 ≤ 300 by omega, show 8 + (4 + 11) + (60 * 60 + 200) ≤ 12000 by omega⟩) hP hK hD hC hpp cw_5 rfl rfl hl.1 rfl (lv_room (Nat.le_of_ble_eq_true rfl)) dX6_workProgram_10) hS hD hh hpp (fun r_8 S_9 H locs hw_10 hP hD hS hC hh hs_11 hpp => ?_)
  try dsimp only at hw_10
  have aw_12 : AW [27, 28, 29, 30, 31, 32, 33, 34] [111, 112] S_2 S_9 := hw_10.1
  have aw_12t : AW [27, 28, 29, 30, 31, 32, 33, 34] [110, 111, 112, 113, 202] S S_9 := aw_5t.tr (aw_12.mono (by decide) (by decide))
  have tj_13 : TJ S_9 N := TJ.aw tj_6 aw_12 (by decide)
  obtain ⟨hx1, hx2, hx3, hx4⟩ : XQ _ _ al 0 0 wm0 (wmo tr mk al n9) r_8 := hw_10.2
  have hP9 := wmx_ok hTm mk al 60 wm0 n9 0 wm0_W rfl (Nat.zero_le _) hn (Nat.le_refl _) (Nat.zero_le _)
  have hh2 : hlt (wmo tr mk al n9).1 ≤ 2 := wmx_h2 _ _ _ _ _ _ _ (Nat.zero_le _)
  have hsg1 : SG S_9 402 [] := hw_3.2.2.1.aw aw_12 (by decide) (by decide) (by decide)
  have te9 : TC S_9 tr mk N := te_7.aw aw_12 (by decide)
  refine lv_istore_n (lv' := [(3, .int r_8), (0, .ref (ga G 5)), (1, .int (nI n9)), (2, .int (nI al))]) hx hb dX6_workProgram_13 rfl hl (by decide) rfl (fun ls hl => ?_)
  refine lv_iload_n hx hb dX6_workProgram_14 rfl (lv_at hl 0 rfl) ?_
  refine lv_if_lt (tgt := 32) hx hb dX6_workProgram_15 (by decide) (fun c_14 => ?_) (fun c_14 => ?_)
  · skip
    have hz : hlt (wmo tr mk al n9).1 ≠ 0 := ans_lt (a := (wmo tr mk al n9).1) (x := (wmo tr mk al n9).2) hx4 (fun z => by have h1 := hP9.2.2.2 z; have h2 := (hx1 z).choose_spec.1.sz; change (wmo tr mk al n9).2 < wnv (wmo tr mk al n9).1 at h1; omega) (Int32.not_le.mpr c_14)
    have h112 : S_9.1 112 = wmpl9 (wmo tr mk al n9) := (hx3 hz).trans (if_neg hz).symm
    refine lv_aload_n hx hb dX6_workProgram_32 rfl (lv_at hl 1 rfl) ?_
    refine lv_iload_n hx hb dX6_workProgram_33 rfl (lv_at hl 0 rfl) ?_
    refine lv_bipush (v := (-6)) hx hb dX6_workProgram_34 (by decide) ?_
    refine lv_icmp_ne (tgt := 43) hx hb dX6_workProgram_36 (by decide) (fun c_15 => ?_) (fun c_15 => ?_)
    · skip
      refine lv_iconst (v := 1) hx hb dX6_workProgram_43 (by decide) ?_
      refine c_put5_13 (x := 1) hx hb htu hown hK hP hD hS (htu _ C_161) dX6_workProgram_44 (fun H locs hP hD hS => ?_)
      have S_16h : HS S (cO S_9 113 1) := hh
      have S_16c : CL (cO S_9 113 1) := hC
      have S_16p : PT S ≤ PT (cO S_9 113 1) := hpp
      refine c_eq (S1 := S_9) (S2 := cO S_9 113 1) rfl ?_
      have S_16w : AW [27, 28, 29, 30, 31, 32, 33, 34] [110, 111, 112, 113, 202] S (cO S_9 113 1) := (AW.o aw_12t (by decide))
      have hh := S_16h
      have hC := S_16c
      have hpp := S_16p
      have tj_17 : TJ (cO S_9 113 1) N := tj_13
      refine lv_aload_n hx hb dX6_workProgram_47 rfl (lv_at hl 1 rfl) ?_
      refine va_get (D := gD G) (ci := 6) (v := .int 1) (C := RX6) (T := TX6) (N := 14) hx hb htu cu_in6 hown hK hP 5 cw_5 rfl 13 (by decide) (htu _ C_161) (fun _ h9 => h9) (m_v cO_s) dX6_workProgram_48 ?_
      exact c_iret (v := 1) hx hb hr hK hP hD hS hC hh hpp ⟨S_16w, ⟨⟨_, hsg1.1, Nat.zero_le _⟩, ⟨(by rw [ans_1 hx4 hz c_15]; rfl), cO_s.trans (by rw [ans_1 hx4 hz c_15]; rfl), ((cO_n (show 111 ≠ 113 by decide)).trans hx2), ((cO_n (show 112 ≠ 113 by decide)).trans h112)⟩, fun z => absurd z hz⟩⟩ dX6_workProgram_51 hlocks
    · skip
      refine lv_iconst (v := 2) hx hb dX6_workProgram_39 (by decide) ?_
      refine lv_goto (tgt := 44) hx hb dX6_workProgram_40 (by decide) ?_
      refine c_put5_13 (x := 2) hx hb htu hown hK hP hD hS (htu _ C_161) dX6_workProgram_44 (fun H locs hP hD hS => ?_)
      have S_18h : HS S (cO S_9 113 2) := hh
      have S_18c : CL (cO S_9 113 2) := hC
      have S_18p : PT S ≤ PT (cO S_9 113 2) := hpp
      refine c_eq (S1 := S_9) (S2 := cO S_9 113 2) rfl ?_
      have S_18w : AW [27, 28, 29, 30, 31, 32, 33, 34] [110, 111, 112, 113, 202] S (cO S_9 113 2) := (AW.o aw_12t (by decide))
      have hh := S_18h
      have hC := S_18c
      have hpp := S_18p
      have tj_19 : TJ (cO S_9 113 2) N := tj_13
      refine lv_aload_n hx hb dX6_workProgram_47 rfl (lv_at hl 1 rfl) ?_
      refine va_get (D := gD G) (ci := 6) (v := .int 2) (C := RX6) (T := TX6) (N := 14) hx hb htu cu_in6 hown hK hP 5 cw_5 rfl 13 (by decide) (htu _ C_161) (fun _ h9 => h9) (m_v cO_s) dX6_workProgram_48 ?_
      exact c_iret (v := 2) hx hb hr hK hP hD hS hC hh hpp ⟨S_18w, ⟨⟨_, hsg1.1, Nat.zero_le _⟩, ⟨(by rw [ans_2 hx4 hz c_15 hh2]; rfl), cO_s.trans (by rw [ans_2 hx4 hz c_15 hh2]; rfl), ((cO_n (show 111 ≠ 113 by decide)).trans hx2), ((cO_n (show 112 ≠ 113 by decide)).trans h112)⟩, fun z => absurd z hz⟩⟩ dX6_workProgram_51 hlocks
  · skip
    have hz : hlt (wmo tr mk al n9).1 = 0 := ans_ge (a := (wmo tr mk al n9).1) (x := (wmo tr mk al n9).2) hx4 (Int32.not_lt.mp c_14)
    obtain ⟨f8, hrc, -, -, kp⟩ := hx1 hz
    have h112 : S_9.1 112 = wmpl9 (wmo tr mk al n9) := (kp.1.trans hw_3.2.2.2).trans (if_pos hz).symm
    have hr8 : r_8 = nI (wmo tr mk al n9).2 := hx4.trans (ans_go (a := (wmo tr mk al n9).1) (x := (wmo tr mk al n9).2) hz)
    rw [hr8] at hl
    refine lv_aload_n hx hb dX6_workProgram_18 rfl (lv_at hl 1 rfl) ?_
    refine lv_iconst (v := 0) hx hb dX6_workProgram_19 (by decide) ?_
    refine c_put5_13 (x := 0) hx hb htu hown hK hP hD hS (htu _ C_161) dX6_workProgram_20 (fun H locs hP hD hS => ?_)
    have S_20h : HS S (cO S_9 113 0) := hh
    have S_20c : CL (cO S_9 113 0) := hC
    have S_20p : PT S ≤ PT (cO S_9 113 0) := hpp
    refine c_eq (S1 := S_9) (S2 := cO S_9 113 0) rfl ?_
    have S_20w : AW [27, 28, 29, 30, 31, 32, 33, 34] [110, 111, 112, 113, 202] S (cO S_9 113 0) := (AW.o aw_12t (by decide))
    have hh := S_20h
    have hC := S_20c
    have hpp := S_20p
    have tj_21 : TJ (cO S_9 113 0) N := tj_13
    refine lv_aload_n hx hb dX6_workProgram_23 rfl (lv_at hl 1 rfl) ?_
    refine lv_iload_n hx hb dX6_workProgram_24 rfl (lv_at hl 0 rfl) ?_
    refine lv_iconst (v := 1) hx hb dX6_workProgram_25 (by decide) ?_
    have rq_22 : RCw (cO S_9 113 0) (wmo tr mk al n9).1 al f8 := hrc
    have rq_22s : SG (cO S_9 113 0) 402 [] := hsg1
    have rq_22t : TC (cO S_9 113 0) tr mk N := te9
    have hC0 := hC
    refine c_cv (c_runV (As := [.int (nI ((wmo tr mk al n9).2)), .int 1]) (rest := []) (q0 := 5) (ci := 6) ⟨hx, hb, hml, hown, htu⟩ ((xp_put_all 200) l G (cO S_9 113 0) ((wmo tr mk al n9).1) al f8 tr N dp mk ([]) 1 ((wmo tr mk al n9).2) hC rq_22 tj_21 rq_22t hP9.1 rq_22s ((Nat.zero_le _)) ((hP9.2.2.2 hz)) ((show 1 + 200 = 201 by decide)) H) (cwV 2 htu hU_X6_66 rfl rfl rfl (by decide +kernel) ⟨show (200 + 8) + 1 ≤ 300 by omega, show 8 + (6 + 11) + (30 * 200 + 200) ≤ 12000 by omega⟩) hP hK hD hC hpp cw_5 rfl rfl hl.1 rfl (lv_room (Nat.le_of_ble_eq_true rfl)) dX6_workProgram_26) hS hD hh hpp (fun S_24 H locs hw_25 hP hD hS hC hh hs_26 hpp => ?_)
    try dsimp only at hw_25
    have aw_27 : AW [] [202] (cO S_9 113 0) S_24 := hw_25.1
    have aw_27t : AW [27, 28, 29, 30, 31, 32, 33, 34] [110, 111, 112, 113, 202] S S_24 := S_20w.tr (aw_27.mono (by decide) (by decide))
    have ii_28 : S_24.1 111 = nI (bgn (wmo tr mk al n9).1) := (aw_27.1 111 (by decide)).trans ((cO_n (show 111 ≠ 113 by decide)).trans hx2)
    have ii_29 : S_24.1 112 = wmpl9 (wmo tr mk al n9) := (aw_27.1 112 (by decide)).trans ((cO_n (show 112 ≠ 113 by decide)).trans h112)
    have ii_30 : S_24.1 113 = 0 := (aw_27.1 113 (by decide)).trans cO_s
    have tj_31 : TJ S_24 N := TJ.aw tj_21 aw_27 (by decide)
    refine lv_goto (tgt := 47) hx hb dX6_workProgram_29 (by decide) ?_
    refine lv_aload_n hx hb dX6_workProgram_47 rfl (lv_at hl 1 rfl) ?_
    refine va_get (D := gD G) (ci := 6) (v := .int 0) (C := RX6) (T := TX6) (N := 14) hx hb htu cu_in6 hown hK hP 5 cw_5 rfl 13 (by decide) (htu _ C_161) (fun _ h9 => h9) (m_v ii_30) dX6_workProgram_48 ?_
    exact c_iret (v := 0) hx hb hr hK hP hD hS hC hh hpp ⟨aw_27t, ⟨⟨_, hw_25.2.1, wmt_len _ _ _ (Nat.zero_le _)⟩, ⟨(by rw [hz]; rfl), ii_30.trans (by rw [hz]; rfl), ii_28, ii_29⟩, fun _ => hw_25.2⟩⟩ dX6_workProgram_51 hlocks

set_option maxHeartbeats 4000000 in
set_option maxRecDepth 100000 in
/-- work -/
theorem xv_work (l : Launch) (G : cG) (S : cS) (N : Nat) (tr : aM) (dp : Nat → Nat) (mk : Nat → Int32) (x : Int32) (y : Int32) (hC : CL S) (hI : CI S N) (hE : TC S tr mk N) (hTm : wmT tr N dp) (Hs : Heap) : Met l yX7_work (wC yX7_work cX7_work 3 (some .int)) (cRm S 310 13000) (cPc G S Hs [.ref (ga G 0), .int x, .int y]) (cQi G S Hs (fun v u => AW [27, 28, 29, 30, 31, 32, 33, 34] [110, 111, 112, 113, 202] S u ∧ ((v = -1 ∧ u = S ∧ ¬ ((∃ j, j < N ∧ x = nI j) ∧ ∃ w, w < 301 ∧ y = nI w)) ∨ ∃ q w9, q < N ∧ x = nI q ∧ w9 < 301 ∧ y = nI w9 ∧ CI u N ∧ WO9 u (wmo tr mk w9 q) v ∧ SV9 u tr (wmo tr mk w9 q)))) (CC - PT S) (12 * (CC - PT S)) (cA G S Hs.size) := by
  refine Met.ofW (cc := cX7_work) (maxL := 3) (ret := (some .int)) (by decide) rfl ?_
  intro p e s m args below meth c s₁ B hml hv
  obtain ⟨rfl, hsz, hP, hK, hD0, -⟩ := hv
  have hx := B.exec
  have hb := B.bytes
  have hr := B.returns
  have htu : ∀ w ∈ CU, w.before _ s = true := fun w h => atoms_spec (ws := (wC yX7_work cX7_work 3 (some .int))) B.pre w (List.mem_cons_of_mem _ h)
  have hown : s.vm.findClass RX7 = some m.cls := findClass_of_methodNamed B.named
  have hlocks := B.notSynchronized
  subst hsz
  have hD : cD (cA G S s.heap.size) G S := cD_self hD0
  have hl := lv_entry ([.ref (ga G 0), .int x, .int y]) (n := 3) (Nat.le_of_ble_eq_true rfl)
  rw [lg_entry_eq]
  generalize (lg_sl ([.ref (ga G 0), .int x, .int y]) ++ List.replicate (3 - (lg_sl ([.ref (ga G 0), .int x, .int y])).length) Slot.unset).toArray = ls at hl ⊢
  have hl : lv_has ls 3 [(0, .ref (ga G 0)), (1, .int x), (2, .int y)] := hl
  obtain ⟨H, hHe⟩ : ∃ H : Heap, H = s.heap := ⟨_, rfl⟩
  rw [← hHe] at hP
  have hS : va_S (cA G S s.heap.size) s.heap H [] := by rw [hHe]; exact va_S.rf
  have hh : HS S S := HS.rf
  have hpp : PT S ≤ PT S := Nat.le_refl _
  have hB9 := hC.1
  refine W.heq hHe ?_
  refine c_ent (S := S) ?_
  obtain ⟨hT, ⟨T, V, X, Y, Z, hY⟩, ⟨h15, h19, h20, h21⟩, ⟨a0, h200, a0l⟩, ⟨a1, h201, a1l⟩, ⟨a2, h202, a2l⟩⟩ := id hI
  obtain ⟨tT, tV, tB, tX⟩ := id hY.2.1
  have hN := hT.1.1
  refine lv_aload_n hx hb dX7_work_0 rfl (lv_at hl 0 rfl) ?_
  refine va_get (D := gD G) (ci := 7) (v := .ref (ga G 1)) (C := RX7) (T := TX7) (N := 4) hx hb htu cu_in7 hown hK hP 0 cw_0 rfl 0 (by decide) (htu _ C_7) (fun _ h9 => h9) rfl dX7_work_1 ?_
  refine lv_iload_n hx hb dX7_work_4 rfl (lv_at hl 1 rfl) ?_
  have hC0 := hC
  refine c_ci (c_runV (As := [.int x]) (rest := []) (q0 := 1) (ci := 3) ⟨hx, hb, hml, hown, htu⟩ (tt_isNode l G S N x hC hT.1 H) (cwV 1 htu hU_X7_67 rfl rfl rfl (by decide +kernel) ⟨show 1 + 1 ≤ 310 by omega, show 8 + (2 + 11) + 21 ≤ 13000 by omega⟩) hP hK hD hC hpp cw_1 rfl rfl hl.1 rfl (lv_room (Nat.le_of_ble_eq_true rfl)) dX7_work_5) hS hD hh hpp (fun r_1 S_2 H locs hw_3 hP hD hS hC hh hs_4 hpp => ?_)
  obtain ⟨-, hu9, hw_3⟩ := hw_3
  have hu9 := hu9.symm
  subst hu9
  refine lv_if_eq (tgt := 22) hx hb dX7_work_8 (by decide) (fun c_5 => ?_) (fun c_5 => ?_)
  · skip
    refine lv_iconst (v := (-1)) hx hb dX7_work_22 (by decide) ?_
    exact c_iret (v := (-1)) hx hb hr hK hP hD hS hC hh hpp ⟨AW.rf, (Or.inl ⟨rfl, rfl, fun h => (holds_iff (by omega)).mpr h.1 (hw_3.symm.trans c_5)⟩)⟩ dX7_work_23 hlocks
  · skip
    refine lv_iload_n hx hb dX7_work_11 rfl (lv_at hl 2 rfl) ?_
    refine lv_if_lt (tgt := 22) hx hb dX7_work_12 (by decide) (fun c_6 => ?_) (fun c_6 => ?_)
    · skip
      refine lv_iconst (v := (-1)) hx hb dX7_work_22 (by decide) ?_
      exact c_iret (v := (-1)) hx hb hr hK hP hD hS hC hh hpp ⟨AW.rf, (Or.inl ⟨rfl, rfl, fun ⟨_, w, hw, e⟩ => nI_n0 (by omega) (e ▸ c_6)⟩)⟩ dX7_work_23 hlocks
    · skip
      refine lv_iload_n hx hb dX7_work_15 rfl (lv_at hl 2 rfl) ?_
      refine lv_sipush (v := 300) hx hb dX7_work_16 (by decide) ?_
      refine lv_icmp_le (tgt := 24) hx hb dX7_work_19 (by decide) (fun c_7 => ?_) (fun c_7 => ?_)
      · skip
        obtain ⟨q9, hq9, eq9⟩ := (holds_iff (by omega)).mp (fun h => c_5 (hw_3.trans h))
        obtain ⟨al, hal, ey⟩ := kI_in (k := 301) c_6 (fun h => absurd (show nI 301 ≤ 300 from Int32.le_trans h c_7) (by decide)) (by decide)
        subst ey
        subst eq9
        refine lv_aload_n hx hb dX7_work_24 rfl (lv_at hl 0 rfl) ?_
        refine va_get (D := gD G) (ci := 7) (v := .ref (ga G 5)) (C := RX7) (T := TX7) (N := 4) hx hb htu cu_in7 hown hK hP 0 cw_0 rfl 2 (by decide) (htu _ C_15) (fun _ h9 => h9) rfl dX7_work_25 ?_
        refine lv_iload_n hx hb dX7_work_28 rfl (lv_at hl 1 rfl) ?_
        refine lv_iload_n hx hb dX7_work_29 rfl (lv_at hl 2 rfl) ?_
        have hC0 := hC
        refine c_ci (c_runV (As := [.int (nI q9), .int (nI al)]) (rest := []) (q0 := 5) (ci := 6) ⟨hx, hb, hml, hown, htu⟩ (xv_workProgram l G S N tr dp mk al q9 hC hT hE hTm ((Nat.le_of_lt_succ hal)) hq9 H) (cwV 2 htu hU_X7_162 rfl rfl rfl (by decide +kernel) ⟨show 300 + 1 ≤ 310 by omega, show 8 + (4 + 11) + 12000 ≤ 13000 by omega⟩) hP hK hD hC hpp cw_5 rfl rfl hl.1 rfl (lv_room (Nat.le_of_ble_eq_true rfl)) dX7_work_30) hS hD hh hpp (fun r_8 S_9 H locs hw_10 hP hD hS hC hh hs_11 hpp => ?_)
        try dsimp only at hw_10
        have aw_12 : AW [27, 28, 29, 30, 31, 32, 33, 34] [110, 111, 112, 113, 202] S S_9 := hw_10.1
        have aw_12t : AW [27, 28, 29, 30, 31, 32, 33, 34] [110, 111, 112, 113, 202] S S_9 := AW.rf.tr (aw_12.mono (by decide) (by decide))
        have kk_13 : kK S_9 15 = 0 := (aw_12.2.1 15 (lt35 (by decide)) (by decide)).2.trans h15
        have kk_14 : kK S_9 19 = 0 := (aw_12.2.1 19 (lt35 (by decide)) (by decide)).2.trans h19
        have kk_15 : kK S_9 20 = 0 := (aw_12.2.1 20 (lt35 (by decide)) (by decide)).2.trans h20
        have kk_16 : kK S_9 21 = 0 := (aw_12.2.1 21 (lt35 (by decide)) (by decide)).2.trans h21
        have ii_17 : S_9.1 200 = nI a0 := (aw_12.1 200 (by decide)).trans h200
        have ii_18 : S_9.1 201 = nI a1 := (aw_12.1 201 (by decide)).trans h201
        have tj_19 : TJ S_9 N := TJ.aw hT aw_12 (by decide)
        have ty_20 := TY.aw hY aw_12 (by decide)
        obtain ⟨⟨wp_21m, wp_21s, wp_21l⟩, wp_21o⟩ := hw_10.2
        exact c_iret (v := r_8) hx hb hr hK hP hD hS hC hh hpp ⟨aw_12t, (Or.inr ⟨q9, al, hq9, rfl, hal, rfl, ⟨tj_19, ⟨_, _, _, _, _, ty_20⟩, ⟨kk_13, kk_14, kk_15, kk_16⟩, ⟨_, ii_17, a0l⟩, ⟨_, ii_18, a1l⟩, ⟨_, wp_21s, wp_21l⟩⟩, wp_21o⟩)⟩ dX7_work_33 hlocks
      · skip
        refine lv_iconst (v := (-1)) hx hb dX7_work_22 (by decide) ?_
        exact c_iret (v := (-1)) hx hb hr hK hP hD hS hC hh hpp ⟨AW.rf, (Or.inl ⟨rfl, rfl, fun ⟨_, w, hw, e⟩ => c_7 (e ▸ (show nI w ≤ nI 300 from (nI_leI (by omega) (by omega)).mpr (by omega)))⟩)⟩ dX7_work_23 hlocks
