set_option maxHeartbeats 4000000 in
set_option maxRecDepth 100000 in
/-- addValue -/
theorem x_addValue (l : Launch) (G : cG) (S : cS) (v9 : Nat) (x : Int32) (y : Int32) (z9 : Int32) (hC : CL S) (k0 : kK S 27 = v9) (k1 : kK S 28 = v9) (k2 : kK S 29 = v9) (hv : v9 < 301) (Hs : Heap) : Met l yX6_addValue (wC yX6_addValue cX6_addValue 4 (some .int)) (cRm S 3 103) (cPc G S Hs [.ref (ga G 5), .int x, .int y, .int z9]) (cQi G S Hs (fun v u => AW [27, 28, 29] [] S u ∧ ((kK u 27 = v9 + 1 ∧ kK u 28 = v9 + 1 ∧ kK u 29 = v9 + 1) ∧ AV S u v9 x y z9 ∧ v = nI v9))) (CC - PT S) (12 * (CC - PT S)) (cA G S Hs.size) := by
  refine Met.ofW (cc := cX6_addValue) (maxL := 4) (ret := (some .int)) (by decide) rfl ?_
  intro p e s m args below meth c s₁ B hml hv
  obtain ⟨rfl, hsz, hP, hK, hD0, -⟩ := hv
  have hx := B.exec
  have hb := B.bytes
  have hr := B.returns
  have htu : ∀ w ∈ CU, w.before _ s = true := fun w h => atoms_spec (ws := (wC yX6_addValue cX6_addValue 4 (some .int))) B.pre w (List.mem_cons_of_mem _ h)
  have hown : s.vm.findClass RX6 = some m.cls := findClass_of_methodNamed B.named
  have hlocks := B.notSynchronized
  subst hsz
  have hD : cD (cA G S s.heap.size) G S := cD_self hD0
  have hl := lv_entry ([.ref (ga G 5), .int x, .int y, .int z9]) (n := 4) (Nat.le_of_ble_eq_true rfl)
  rw [lg_entry_eq]
  generalize (lg_sl ([.ref (ga G 5), .int x, .int y, .int z9]) ++ List.replicate (4 - (lg_sl ([.ref (ga G 5), .int x, .int y, .int z9])).length) Slot.unset).toArray = ls at hl ⊢
  have hl : lv_has ls 4 [(0, .ref (ga G 5)), (1, .int x), (2, .int y), (3, .int z9)] := hl
  obtain ⟨H, hHe⟩ : ∃ H : Heap, H = s.heap := ⟨_, rfl⟩
  rw [← hHe] at hP
  have hS : va_S (cA G S s.heap.size) s.heap H [] := by rw [hHe]; exact va_S.rf
  have hh : HS S S := HS.rf
  have hpp : PT S ≤ PT S := Nat.le_refl _
  have hB9 := hC.1
  refine W.heq hHe ?_
  refine c_ent (S := S) ?_
  refine lv_aload_n hx hb dX6_addValue_0 rfl (lv_at hl 0 rfl) ?_
  refine va_get (D := gD G) (ci := 6) (v := .ref (kH S 27)) (C := RX6) (T := TX6) (N := 14) hx hb htu cu_in6 hown hK hP 5 cw_5 rfl 2 (by decide) (htu _ C_152) (fun _ h9 => h9) rfl dX6_addValue_1 ?_
  refine lv_iload_n hx hb dX6_addValue_4 rfl (lv_at hl 1 rfl) ?_
  have hC0 := hC
  refine c_cv (c_runV (As := [.int x]) (rest := []) (q0 := (2 * 27 + 13)) (ci := 0) ⟨hx, hb, hml, hown, htu⟩ (c_addA l G S 27 (lt35 (by decide)) hC (kH S 27) rfl x (show kK S 27 < lim 27 by rw [k0, lim_27]; omega) H) (cwV 1 htu hU_X6_82 rfl rfl rfl (by decide +kernel) ⟨Nat.le_of_ble_eq_true rfl, Nat.le_of_ble_eq_true rfl⟩) hP hK hD hC hpp (c_hd rfl (cw_row (lt35 (by decide)))) rfl rfl hl.1 rfl (lv_room (Nat.le_of_ble_eq_true rfl)) dX6_addValue_5) hS hD hh hpp (fun S_2 H locs hw_3 hP hD hS hC hh hs_4 hpp => ?_)
  try dsimp only at hw_3
  have aw_5 : AW [27] [] S S_2 := (by obtain ⟨_, _, _, h9, -, -⟩ := hw_3; rw [h9]; exact AW.u (by decide))
  have aw_5t : AW [27, 28, 29] [] S S_2 := AW.rf.tr (aw_5.mono (by decide) (by decide))
  have kk_6 : kK S_2 28 = v9 := (aw_5.2.1 28 (lt35 (by decide)) (by decide)).2.trans k1
  have kk_7 : kK S_2 29 = v9 := (aw_5.2.1 29 (lt35 (by decide)) (by decide)).2.trans k2
  obtain ⟨ad_8n, ad_8q, ad_8g, ad_8u, ad_81, ad_82⟩ := hw_3
  have kk_9 : kK S_2 27 = v9 + 1 := by rw [ad_8u]; exact uR_K.trans (congrArg (· + 1) k0)
  have af_10 := ad_F2 ad_8u ad_81 ad_82 k0
  refine lv_aload_n hx hb dX6_addValue_8 rfl (lv_at hl 0 rfl) ?_
  refine va_get (D := gD G) (ci := 6) (v := .ref (kH S 28)) (C := RX6) (T := TX6) (N := 14) hx hb htu cu_in6 hown hK hP 5 cw_5 rfl 3 (by decide) (htu _ C_153) (fun _ h9 => h9) (c_hv (hh.2 28 (lt35 (by decide)))) dX6_addValue_9 ?_
  refine lv_iload_n hx hb dX6_addValue_12 rfl (lv_at hl 2 rfl) ?_
  have hC0 := hC
  refine c_cv (c_runV (As := [.int y]) (rest := []) (q0 := (2 * 28 + 13)) (ci := 0) ⟨hx, hb, hml, hown, htu⟩ (c_addA l G S_2 28 (lt35 (by decide)) hC (kH S 28) (hh.2 28 (lt35 (by decide))) y (show kK S_2 28 < lim 28 by rw [kk_6, lim_28]; omega) H) (cwV 1 htu hU_X6_82 rfl rfl rfl (by decide +kernel) ⟨Nat.le_of_ble_eq_true rfl, Nat.le_of_ble_eq_true rfl⟩) hP hK hD hC hpp (c_hd (hh.2 28 (lt35 (by decide))) (cw_row (lt35 (by decide)))) rfl rfl hl.1 rfl (lv_room (Nat.le_of_ble_eq_true rfl)) dX6_addValue_13) hS hD hh hpp (fun S_12 H locs hw_13 hP hD hS hC hh hs_14 hpp => ?_)
  try dsimp only at hw_13
  have aw_15 : AW [28] [] S_2 S_12 := (by obtain ⟨_, _, _, h9, -, -⟩ := hw_13; rw [h9]; exact AW.u (by decide))
  have aw_15t : AW [27, 28, 29] [] S S_12 := aw_5t.tr (aw_15.mono (by decide) (by decide))
  have kk_16 : kK S_12 29 = v9 := (aw_15.2.1 29 (lt35 (by decide)) (by decide)).2.trans kk_7
  have kk_17 : kK S_12 27 = v9 + 1 := (aw_15.2.1 27 (lt35 (by decide)) (by decide)).2.trans kk_9
  obtain ⟨ad_18n, ad_18q, ad_18g, ad_18u, ad_181, ad_182⟩ := hw_13
  have kk_19 : kK S_12 28 = v9 + 1 := by rw [ad_18u]; exact uR_K.trans (congrArg (· + 1) kk_6)
  have af_20 := ad_F2 ad_18u ad_181 ad_182 kk_6
  refine lv_aload_n hx hb dX6_addValue_16 rfl (lv_at hl 0 rfl) ?_
  refine va_get (D := gD G) (ci := 6) (v := .ref (kH S 29)) (C := RX6) (T := TX6) (N := 14) hx hb htu cu_in6 hown hK hP 5 cw_5 rfl 4 (by decide) (htu _ C_154) (fun _ h9 => h9) (c_hv (hh.2 29 (lt35 (by decide)))) dX6_addValue_17 ?_
  refine lv_iload_n hx hb dX6_addValue_20 rfl (lv_at hl 3 rfl) ?_
  have hC0 := hC
  refine c_cv (c_runV (As := [.int z9]) (rest := []) (q0 := (2 * 29 + 13)) (ci := 0) ⟨hx, hb, hml, hown, htu⟩ (c_addA l G S_12 29 (lt35 (by decide)) hC (kH S 29) (hh.2 29 (lt35 (by decide))) z9 (show kK S_12 29 < lim 29 by rw [kk_16, lim_29]; omega) H) (cwV 1 htu hU_X6_82 rfl rfl rfl (by decide +kernel) ⟨Nat.le_of_ble_eq_true rfl, Nat.le_of_ble_eq_true rfl⟩) hP hK hD hC hpp (c_hd (hh.2 29 (lt35 (by decide))) (cw_row (lt35 (by decide)))) rfl rfl hl.1 rfl (lv_room (Nat.le_of_ble_eq_true rfl)) dX6_addValue_21) hS hD hh hpp (fun S_22 H locs hw_23 hP hD hS hC hh hs_24 hpp => ?_)
  try dsimp only at hw_23
  have aw_25 : AW [29] [] S_12 S_22 := (by obtain ⟨_, _, _, h9, -, -⟩ := hw_23; rw [h9]; exact AW.u (by decide))
  have aw_25t : AW [27, 28, 29] [] S S_22 := aw_15t.tr (aw_25.mono (by decide) (by decide))
  have kk_26 : kK S_22 27 = v9 + 1 := (aw_25.2.1 27 (lt35 (by decide)) (by decide)).2.trans kk_17
  have kk_27 : kK S_22 28 = v9 + 1 := (aw_25.2.1 28 (lt35 (by decide)) (by decide)).2.trans kk_19
  obtain ⟨ad_28n, ad_28q, ad_28g, ad_28u, ad_281, ad_282⟩ := hw_23
  have kk_29 : kK S_22 29 = v9 + 1 := by rw [ad_28u]; exact uR_K.trans (congrArg (· + 1) kk_16)
  have af_30 := ad_F2 ad_28u ad_281 ad_282 kk_16
  refine lv_aload_n hx hb dX6_addValue_24 rfl (lv_at hl 0 rfl) ?_
  refine va_get (D := gD G) (ci := 6) (v := .ref (kH S 27)) (C := RX6) (T := TX6) (N := 14) hx hb htu cu_in6 hown hK hP 5 cw_5 rfl 2 (by decide) (htu _ C_152) (fun _ h9 => h9) (c_hv (hh.2 27 (lt35 (by decide)))) dX6_addValue_25 ?_
  refine va_get (D := gD G) (ci := 0) (v := .int (nI (v9 + 1))) (C := RX0) (T := TX0) (N := 2) hx hb htu cu_in0 hown hK hP (2 * 27 + 13) (c_hd (hh.2 27 (lt35 (by decide))) (cw_row (lt35 (by decide)))) rfl 1 (by decide) (htu _ C_556) (fun _ h9 => h9) (m_v (congrArg nI kk_26)) dX6_addValue_28 ?_
  refine lv_iconst (v := 1) hx hb dX6_addValue_31 (by decide) ?_
  refine lv_isub hx hb dX6_addValue_32 ?_
  refine m_top (y := nI v9) (nI_pred _) ?_
  exact c_iret (v := nI v9) hx hb hr hK hP hD hS hC hh hpp ⟨aw_25t, ⟨⟨kk_26, kk_27, kk_29⟩, ⟨⟨(fun j hj => (congrFun ((aw_25.2.1 27 (lt35 (by decide)) (by decide)).1.trans (aw_15.2.1 27 (lt35 (by decide)) (by decide)).1) j).trans (af_10.1 j hj)), ((congrFun ((aw_25.2.1 27 (lt35 (by decide)) (by decide)).1.trans (aw_15.2.1 27 (lt35 (by decide)) (by decide)).1) _).trans af_10.2)⟩, ⟨(fun j hj => (congrFun (aw_25.2.1 28 (lt35 (by decide)) (by decide)).1 j).trans ((af_20.1 j hj).trans (congrFun (aw_5.2.1 28 (lt35 (by decide)) (by decide)).1 j))), ((congrFun (aw_25.2.1 28 (lt35 (by decide)) (by decide)).1 _).trans af_20.2)⟩, (fun j hj => (af_30.1 j hj).trans (congrFun ((aw_15.2.1 29 (lt35 (by decide)) (by decide)).1.trans (aw_5.2.1 29 (lt35 (by decide)) (by decide)).1) j)), (af_30.2)⟩, rfl⟩⟩ dX6_addValue_33 hlocks

set_option maxHeartbeats 4000000 in
set_option maxRecDepth 100000 in
/-- addSight -/
theorem x_addSight (l : Launch) (G : cG) (S : cS) (v9 : Nat) (x : Int32) (y : Int32) (z9 : Int32) (w9 : Int32) (hC : CL S) (k0 : kK S 31 = v9) (k1 : kK S 32 = v9) (k2 : kK S 33 = v9) (k3 : kK S 34 = v9) (hv : v9 < 301) (Hs : Heap) : Met l yX6_addSight (wC yX6_addSight cX6_addSight 5 (some .int)) (cRm S 3 103) (cPc G S Hs [.ref (ga G 5), .int x, .int y, .int z9, .int w9]) (cQi G S Hs (fun v u => AW [31, 32, 33, 34] [] S u ∧ ((kK u 31 = v9 + 1 ∧ kK u 32 = v9 + 1 ∧ kK u 33 = v9 + 1 ∧ kK u 34 = v9 + 1) ∧ AE S u v9 x y z9 w9 ∧ v = nI v9))) (CC - PT S) (12 * (CC - PT S)) (cA G S Hs.size) := by
  refine Met.ofW (cc := cX6_addSight) (maxL := 5) (ret := (some .int)) (by decide) rfl ?_
  intro p e s m args below meth c s₁ B hml hv
  obtain ⟨rfl, hsz, hP, hK, hD0, -⟩ := hv
  have hx := B.exec
  have hb := B.bytes
  have hr := B.returns
  have htu : ∀ w ∈ CU, w.before _ s = true := fun w h => atoms_spec (ws := (wC yX6_addSight cX6_addSight 5 (some .int))) B.pre w (List.mem_cons_of_mem _ h)
  have hown : s.vm.findClass RX6 = some m.cls := findClass_of_methodNamed B.named
  have hlocks := B.notSynchronized
  subst hsz
  have hD : cD (cA G S s.heap.size) G S := cD_self hD0
  have hl := lv_entry ([.ref (ga G 5), .int x, .int y, .int z9, .int w9]) (n := 5) (Nat.le_of_ble_eq_true rfl)
  rw [lg_entry_eq]
  generalize (lg_sl ([.ref (ga G 5), .int x, .int y, .int z9, .int w9]) ++ List.replicate (5 - (lg_sl ([.ref (ga G 5), .int x, .int y, .int z9, .int w9])).length) Slot.unset).toArray = ls at hl ⊢
  have hl : lv_has ls 5 [(0, .ref (ga G 5)), (1, .int x), (2, .int y), (3, .int z9), (4, .int w9)] := hl
  obtain ⟨H, hHe⟩ : ∃ H : Heap, H = s.heap := ⟨_, rfl⟩
  rw [← hHe] at hP
  have hS : va_S (cA G S s.heap.size) s.heap H [] := by rw [hHe]; exact va_S.rf
  have hh : HS S S := HS.rf
  have hpp : PT S ≤ PT S := Nat.le_refl _
  have hB9 := hC.1
  refine W.heq hHe ?_
  refine c_ent (S := S) ?_
  refine lv_aload_n hx hb dX6_addSight_0 rfl (lv_at hl 0 rfl) ?_
  refine va_get (D := gD G) (ci := 6) (v := .ref (kH S 31)) (C := RX6) (T := TX6) (N := 14) hx hb htu cu_in6 hown hK hP 5 cw_5 rfl 6 (by decide) (htu _ C_156) (fun _ h9 => h9) rfl dX6_addSight_1 ?_
  refine lv_iload_n hx hb dX6_addSight_4 rfl (lv_at hl 1 rfl) ?_
  have hC0 := hC
  refine c_cv (c_runV (As := [.int x]) (rest := []) (q0 := (2 * 31 + 13)) (ci := 0) ⟨hx, hb, hml, hown, htu⟩ (c_addA l G S 31 (lt35 (by decide)) hC (kH S 31) rfl x (show kK S 31 < lim 31 by rw [k0, lim_31]; omega) H) (cwV 1 htu hU_X6_82 rfl rfl rfl (by decide +kernel) ⟨Nat.le_of_ble_eq_true rfl, Nat.le_of_ble_eq_true rfl⟩) hP hK hD hC hpp (c_hd rfl (cw_row (lt35 (by decide)))) rfl rfl hl.1 rfl (lv_room (Nat.le_of_ble_eq_true rfl)) dX6_addSight_5) hS hD hh hpp (fun S_2 H locs hw_3 hP hD hS hC hh hs_4 hpp => ?_)
  try dsimp only at hw_3
  have aw_5 : AW [31] [] S S_2 := (by obtain ⟨_, _, _, h9, -, -⟩ := hw_3; rw [h9]; exact AW.u (by decide))
  have aw_5t : AW [31, 32, 33, 34] [] S S_2 := AW.rf.tr (aw_5.mono (by decide) (by decide))
  have kk_6 : kK S_2 32 = v9 := (aw_5.2.1 32 (lt35 (by decide)) (by decide)).2.trans k1
  have kk_7 : kK S_2 33 = v9 := (aw_5.2.1 33 (lt35 (by decide)) (by decide)).2.trans k2
  have kk_8 : kK S_2 34 = v9 := (aw_5.2.1 34 (lt35 (by decide)) (by decide)).2.trans k3
  obtain ⟨ad_9n, ad_9q, ad_9g, ad_9u, ad_91, ad_92⟩ := hw_3
  have kk_10 : kK S_2 31 = v9 + 1 := by rw [ad_9u]; exact uR_K.trans (congrArg (· + 1) k0)
  have af_11 := ad_F2 ad_9u ad_91 ad_92 k0
  refine lv_aload_n hx hb dX6_addSight_8 rfl (lv_at hl 0 rfl) ?_
  refine va_get (D := gD G) (ci := 6) (v := .ref (kH S 32)) (C := RX6) (T := TX6) (N := 14) hx hb htu cu_in6 hown hK hP 5 cw_5 rfl 7 (by decide) (htu _ C_157) (fun _ h9 => h9) (c_hv (hh.2 32 (lt35 (by decide)))) dX6_addSight_9 ?_
  refine lv_iload_n hx hb dX6_addSight_12 rfl (lv_at hl 2 rfl) ?_
  have hC0 := hC
  refine c_cv (c_runV (As := [.int y]) (rest := []) (q0 := (2 * 32 + 13)) (ci := 0) ⟨hx, hb, hml, hown, htu⟩ (c_addA l G S_2 32 (lt35 (by decide)) hC (kH S 32) (hh.2 32 (lt35 (by decide))) y (show kK S_2 32 < lim 32 by rw [kk_6, lim_32]; omega) H) (cwV 1 htu hU_X6_82 rfl rfl rfl (by decide +kernel) ⟨Nat.le_of_ble_eq_true rfl, Nat.le_of_ble_eq_true rfl⟩) hP hK hD hC hpp (c_hd (hh.2 32 (lt35 (by decide))) (cw_row (lt35 (by decide)))) rfl rfl hl.1 rfl (lv_room (Nat.le_of_ble_eq_true rfl)) dX6_addSight_13) hS hD hh hpp (fun S_13 H locs hw_14 hP hD hS hC hh hs_15 hpp => ?_)
  try dsimp only at hw_14
  have aw_16 : AW [32] [] S_2 S_13 := (by obtain ⟨_, _, _, h9, -, -⟩ := hw_14; rw [h9]; exact AW.u (by decide))
  have aw_16t : AW [31, 32, 33, 34] [] S S_13 := aw_5t.tr (aw_16.mono (by decide) (by decide))
  have kk_17 : kK S_13 33 = v9 := (aw_16.2.1 33 (lt35 (by decide)) (by decide)).2.trans kk_7
  have kk_18 : kK S_13 34 = v9 := (aw_16.2.1 34 (lt35 (by decide)) (by decide)).2.trans kk_8
  have kk_19 : kK S_13 31 = v9 + 1 := (aw_16.2.1 31 (lt35 (by decide)) (by decide)).2.trans kk_10
  obtain ⟨ad_20n, ad_20q, ad_20g, ad_20u, ad_201, ad_202⟩ := hw_14
  have kk_21 : kK S_13 32 = v9 + 1 := by rw [ad_20u]; exact uR_K.trans (congrArg (· + 1) kk_6)
  have af_22 := ad_F2 ad_20u ad_201 ad_202 kk_6
  refine lv_aload_n hx hb dX6_addSight_16 rfl (lv_at hl 0 rfl) ?_
  refine va_get (D := gD G) (ci := 6) (v := .ref (kH S 33)) (C := RX6) (T := TX6) (N := 14) hx hb htu cu_in6 hown hK hP 5 cw_5 rfl 8 (by decide) (htu _ C_158) (fun _ h9 => h9) (c_hv (hh.2 33 (lt35 (by decide)))) dX6_addSight_17 ?_
  refine lv_iload_n hx hb dX6_addSight_20 rfl (lv_at hl 3 rfl) ?_
  have hC0 := hC
  refine c_cv (c_runV (As := [.int z9]) (rest := []) (q0 := (2 * 33 + 13)) (ci := 0) ⟨hx, hb, hml, hown, htu⟩ (c_addA l G S_13 33 (lt35 (by decide)) hC (kH S 33) (hh.2 33 (lt35 (by decide))) z9 (show kK S_13 33 < lim 33 by rw [kk_17, lim_33]; omega) H) (cwV 1 htu hU_X6_82 rfl rfl rfl (by decide +kernel) ⟨Nat.le_of_ble_eq_true rfl, Nat.le_of_ble_eq_true rfl⟩) hP hK hD hC hpp (c_hd (hh.2 33 (lt35 (by decide))) (cw_row (lt35 (by decide)))) rfl rfl hl.1 rfl (lv_room (Nat.le_of_ble_eq_true rfl)) dX6_addSight_21) hS hD hh hpp (fun S_24 H locs hw_25 hP hD hS hC hh hs_26 hpp => ?_)
  try dsimp only at hw_25
  have aw_27 : AW [33] [] S_13 S_24 := (by obtain ⟨_, _, _, h9, -, -⟩ := hw_25; rw [h9]; exact AW.u (by decide))
  have aw_27t : AW [31, 32, 33, 34] [] S S_24 := aw_16t.tr (aw_27.mono (by decide) (by decide))
  have kk_28 : kK S_24 34 = v9 := (aw_27.2.1 34 (lt35 (by decide)) (by decide)).2.trans kk_18
  have kk_29 : kK S_24 31 = v9 + 1 := (aw_27.2.1 31 (lt35 (by decide)) (by decide)).2.trans kk_19
  have kk_30 : kK S_24 32 = v9 + 1 := (aw_27.2.1 32 (lt35 (by decide)) (by decide)).2.trans kk_21
  obtain ⟨ad_31n, ad_31q, ad_31g, ad_31u, ad_311, ad_312⟩ := hw_25
  have kk_32 : kK S_24 33 = v9 + 1 := by rw [ad_31u]; exact uR_K.trans (congrArg (· + 1) kk_17)
  have af_33 := ad_F2 ad_31u ad_311 ad_312 kk_17
  refine lv_aload_n hx hb dX6_addSight_24 rfl (lv_at hl 0 rfl) ?_
  refine va_get (D := gD G) (ci := 6) (v := .ref (kH S 34)) (C := RX6) (T := TX6) (N := 14) hx hb htu cu_in6 hown hK hP 5 cw_5 rfl 9 (by decide) (htu _ C_159) (fun _ h9 => h9) (c_hv (hh.2 34 (lt35 (by decide)))) dX6_addSight_25 ?_
  refine lv_iload hx hb dX6_addSight_28 (lv_at hl 4 rfl) ?_
  have hC0 := hC
  refine c_cv (c_runV (As := [.int w9]) (rest := []) (q0 := (2 * 34 + 13)) (ci := 0) ⟨hx, hb, hml, hown, htu⟩ (c_addA l G S_24 34 (lt35 (by decide)) hC (kH S 34) (hh.2 34 (lt35 (by decide))) w9 (show kK S_24 34 < lim 34 by rw [kk_28, lim_34]; omega) H) (cwV 1 htu hU_X6_82 rfl rfl rfl (by decide +kernel) ⟨Nat.le_of_ble_eq_true rfl, Nat.le_of_ble_eq_true rfl⟩) hP hK hD hC hpp (c_hd (hh.2 34 (lt35 (by decide))) (cw_row (lt35 (by decide)))) rfl rfl hl.1 rfl (lv_room (Nat.le_of_ble_eq_true rfl)) dX6_addSight_30) hS hD hh hpp (fun S_35 H locs hw_36 hP hD hS hC hh hs_37 hpp => ?_)
  try dsimp only at hw_36
  have aw_38 : AW [34] [] S_24 S_35 := (by obtain ⟨_, _, _, h9, -, -⟩ := hw_36; rw [h9]; exact AW.u (by decide))
  have aw_38t : AW [31, 32, 33, 34] [] S S_35 := aw_27t.tr (aw_38.mono (by decide) (by decide))
  have kk_39 : kK S_35 31 = v9 + 1 := (aw_38.2.1 31 (lt35 (by decide)) (by decide)).2.trans kk_29
  have kk_40 : kK S_35 32 = v9 + 1 := (aw_38.2.1 32 (lt35 (by decide)) (by decide)).2.trans kk_30
  have kk_41 : kK S_35 33 = v9 + 1 := (aw_38.2.1 33 (lt35 (by decide)) (by decide)).2.trans kk_32
  obtain ⟨ad_42n, ad_42q, ad_42g, ad_42u, ad_421, ad_422⟩ := hw_36
  have kk_43 : kK S_35 34 = v9 + 1 := by rw [ad_42u]; exact uR_K.trans (congrArg (· + 1) kk_28)
  have af_44 := ad_F2 ad_42u ad_421 ad_422 kk_28
  refine lv_aload_n hx hb dX6_addSight_33 rfl (lv_at hl 0 rfl) ?_
  refine va_get (D := gD G) (ci := 6) (v := .ref (kH S 31)) (C := RX6) (T := TX6) (N := 14) hx hb htu cu_in6 hown hK hP 5 cw_5 rfl 6 (by decide) (htu _ C_156) (fun _ h9 => h9) (c_hv (hh.2 31 (lt35 (by decide)))) dX6_addSight_34 ?_
  refine va_get (D := gD G) (ci := 0) (v := .int (nI (v9 + 1))) (C := RX0) (T := TX0) (N := 2) hx hb htu cu_in0 hown hK hP (2 * 31 + 13) (c_hd (hh.2 31 (lt35 (by decide))) (cw_row (lt35 (by decide)))) rfl 1 (by decide) (htu _ C_556) (fun _ h9 => h9) (m_v (congrArg nI kk_39)) dX6_addSight_37 ?_
  refine lv_iconst (v := 1) hx hb dX6_addSight_40 (by decide) ?_
  refine lv_isub hx hb dX6_addSight_41 ?_
  refine m_top (y := nI v9) (nI_pred _) ?_
  exact c_iret (v := nI v9) hx hb hr hK hP hD hS hC hh hpp ⟨aw_38t, ⟨⟨kk_39, kk_40, kk_41, kk_43⟩, ⟨⟨(fun j hj => (congrFun ((aw_38.2.1 31 (lt35 (by decide)) (by decide)).1.trans ((aw_27.2.1 31 (lt35 (by decide)) (by decide)).1.trans (aw_16.2.1 31 (lt35 (by decide)) (by decide)).1)) j).trans (af_11.1 j hj)), ((congrFun ((aw_38.2.1 31 (lt35 (by decide)) (by decide)).1.trans ((aw_27.2.1 31 (lt35 (by decide)) (by decide)).1.trans (aw_16.2.1 31 (lt35 (by decide)) (by decide)).1)) _).trans af_11.2)⟩, ⟨(fun j hj => (congrFun ((aw_38.2.1 32 (lt35 (by decide)) (by decide)).1.trans (aw_27.2.1 32 (lt35 (by decide)) (by decide)).1) j).trans ((af_22.1 j hj).trans (congrFun (aw_5.2.1 32 (lt35 (by decide)) (by decide)).1 j))), ((congrFun ((aw_38.2.1 32 (lt35 (by decide)) (by decide)).1.trans (aw_27.2.1 32 (lt35 (by decide)) (by decide)).1) _).trans af_22.2)⟩, ⟨(fun j hj => (congrFun (aw_38.2.1 33 (lt35 (by decide)) (by decide)).1 j).trans ((af_33.1 j hj).trans (congrFun ((aw_16.2.1 33 (lt35 (by decide)) (by decide)).1.trans (aw_5.2.1 33 (lt35 (by decide)) (by decide)).1) j))), ((congrFun (aw_38.2.1 33 (lt35 (by decide)) (by decide)).1 _).trans af_33.2)⟩, (fun j hj => (af_44.1 j hj).trans (congrFun ((aw_27.2.1 34 (lt35 (by decide)) (by decide)).1.trans ((aw_16.2.1 34 (lt35 (by decide)) (by decide)).1.trans (aw_5.2.1 34 (lt35 (by decide)) (by decide)).1)) j)), (af_44.2)⟩, rfl⟩⟩ dX6_addSight_42 hlocks

set_option maxHeartbeats 4000000 in
set_option maxRecDepth 100000 in
/-- stuckAt -/
theorem x_stuckAt (l : Launch) (G : cG) (S : cS) (x : Int32) (hC : CL S) (Hs : Heap) : Met l yX6_stuckAt (wC yX6_stuckAt cX6_stuckAt 2 (some .int)) (cRm S 0 0) (cPc G S Hs [.ref (ga G 5), .int x]) (cQi G S Hs (fun v u => AW [] [112] S u ∧ (v = -3 ∧ u.1 112 = x))) (CC - PT S) (12 * (CC - PT S)) (cA G S Hs.size) := by
  refine Met.ofW (cc := cX6_stuckAt) (maxL := 2) (ret := (some .int)) (by decide) rfl ?_
  intro p e s m args below meth c s₁ B hml hv
  obtain ⟨rfl, hsz, hP, hK, hD0, -⟩ := hv
  have hx := B.exec
  have hb := B.bytes
  have hr := B.returns
  have htu : ∀ w ∈ CU, w.before _ s = true := fun w h => atoms_spec (ws := (wC yX6_stuckAt cX6_stuckAt 2 (some .int))) B.pre w (List.mem_cons_of_mem _ h)
  have hown : s.vm.findClass RX6 = some m.cls := findClass_of_methodNamed B.named
  have hlocks := B.notSynchronized
  subst hsz
  have hD : cD (cA G S s.heap.size) G S := cD_self hD0
  have hl := lv_entry ([.ref (ga G 5), .int x]) (n := 2) (Nat.le_of_ble_eq_true rfl)
  rw [lg_entry_eq]
  generalize (lg_sl ([.ref (ga G 5), .int x]) ++ List.replicate (2 - (lg_sl ([.ref (ga G 5), .int x])).length) Slot.unset).toArray = ls at hl ⊢
  have hl : lv_has ls 2 [(0, .ref (ga G 5)), (1, .int x)] := hl
  obtain ⟨H, hHe⟩ : ∃ H : Heap, H = s.heap := ⟨_, rfl⟩
  rw [← hHe] at hP
  have hS : va_S (cA G S s.heap.size) s.heap H [] := by rw [hHe]; exact va_S.rf
  have hh : HS S S := HS.rf
  have hpp : PT S ≤ PT S := Nat.le_refl _
  have hB9 := hC.1
  refine W.heq hHe ?_
  refine c_ent (S := S) ?_
  refine lv_aload_n hx hb dX6_stuckAt_0 rfl (lv_at hl 0 rfl) ?_
  refine lv_iload_n hx hb dX6_stuckAt_1 rfl (lv_at hl 1 rfl) ?_
  refine c_put5_12 (x := x) hx hb htu hown hK hP hD hS (htu _ C_160) dX6_stuckAt_2 (fun H locs hP hD hS => ?_)
  have S_1h : HS S (cO S 112 x) := hh
  have S_1c : CL (cO S 112 x) := hC
  have S_1p : PT S ≤ PT (cO S 112 x) := hpp
  refine c_eq (S1 := S) (S2 := cO S 112 x) rfl ?_
  have S_1w : AW [] [112] S (cO S 112 x) := (AW.o AW.rf (by decide))
  have hh := S_1h
  have hC := S_1c
  have hpp := S_1p
  refine lv_bipush (v := (-3)) hx hb dX6_stuckAt_5 (by decide) ?_
  exact c_iret (v := (-3)) hx hb hr hK hP hD hS hC hh hpp ⟨S_1w, ⟨rfl, cO_s⟩⟩ dX6_stuckAt_7 hlocks

set_option maxHeartbeats 4000000 in
set_option maxRecDepth 100000 in
/-- seenBy -/
theorem x_seenBy (l : Launch) (G : cG) (S : cS) (ws : wmS) (al : Nat) (f9 : Nat) (tr : aM) (N : Nat) (dp : Nat → Nat) (le : Nat) (e9 : Nat) (hC : CL S) (hR : RCw S ws al f9) (hWf : wmW tr N dp ws) (hle : le < 26) (he : e9 ≤ ne ws) (Hs : Heap) : Met l yX6_seenBy (wC yX6_seenBy cX6_seenBy 5 (some .int)) (cRm S 1 21) (cPc G S Hs [.ref (ga G 5), .int (nI le), .int (sgt e9)]) (cQi G S Hs (fun v u => AW [] [] S u ∧ (u = S ∧ v = sgt (wmk ws le 120 e9)))) (CC - PT S) (12 * (CC - PT S)) (cA G S Hs.size) := by
  refine Met.ofW (cc := cX6_seenBy) (maxL := 5) (ret := (some .int)) (by decide) rfl ?_
  intro p e s m args below meth c s₁ B hml hv
  obtain ⟨rfl, hsz, hP, hK, hD0, -⟩ := hv
  have hx := B.exec
  have hb := B.bytes
  have hr := B.returns
  have htu : ∀ w ∈ CU, w.before _ s = true := fun w h => atoms_spec (ws := (wC yX6_seenBy cX6_seenBy 5 (some .int))) B.pre w (List.mem_cons_of_mem _ h)
  have hown : s.vm.findClass RX6 = some m.cls := findClass_of_methodNamed B.named
  have hlocks := B.notSynchronized
  subst hsz
  have hD : cD (cA G S s.heap.size) G S := cD_self hD0
  have hl := lv_entry ([.ref (ga G 5), .int (nI le), .int (sgt e9)]) (n := 5) (Nat.le_of_ble_eq_true rfl)
  rw [lg_entry_eq]
  generalize (lg_sl ([.ref (ga G 5), .int (nI le), .int (sgt e9)]) ++ List.replicate (5 - (lg_sl ([.ref (ga G 5), .int (nI le), .int (sgt e9)])).length) Slot.unset).toArray = ls at hl ⊢
  have hl : lv_has ls 5 [(0, .ref (ga G 5)), (1, .int (nI le)), (2, .int (sgt e9))] := hl
  obtain ⟨H, hHe⟩ : ∃ H : Heap, H = s.heap := ⟨_, rfl⟩
  rw [← hHe] at hP
  have hS : va_S (cA G S s.heap.size) s.heap H [] := by rw [hHe]; exact va_S.rf
  have hh : HS S S := HS.rf
  have hpp : PT S ≤ PT S := Nat.le_refl _
  have hB9 := hC.1
  refine W.heq hHe ?_
  refine c_ent (S := S) ?_
  refine lv_iload_n hx hb dX6_seenBy_0 rfl (lv_at hl 2 rfl) ?_
  refine lv_istore_n (lv' := [(3, .int (sgt e9)), (0, .ref (ga G 5)), (1, .int (nI le)), (2, .int (sgt e9))]) hx hb dX6_seenBy_1 rfl hl (by decide) rfl (fun ls hl => ?_)
  refine lv_iconst (v := 0) hx hb dX6_seenBy_2 (by decide) ?_
  refine lv_istore (lv' := [(4, .int 0), (3, .int (sgt e9)), (0, .ref (ga G 5)), (1, .int (nI le)), (2, .int (sgt e9))]) hx hb dX6_seenBy_3 hl (by decide) rfl (fun ls hl => ?_)
  refine w_loop (fun j H locs k sl g => ∃ (k9 : Nat) (i : Nat) (ls : Array Slot), i + j = 120 ∧ k9 ≤ ne ws ∧ wmk ws le j k9 = wmk ws le 120 e9 ∧ k = PT S - PT S ∧ sl = 12 * (PT S - PT S) ∧ cP G S H ∧ cD (cA G S s.heap.size) G S ∧ va_S (cA G S s.heap.size) s.heap H locs ∧ lv_has ls 5 [(0, .ref (ga G 5)), (1, .int (nI le)), (2, .int (sgt e9)), (3, .int (sgt k9)), (4, .int (nI i))] ∧ g = F0 m 5 ls []) ?_ ?_ 120 _ _ _ _ _ ⟨e9, 0, ls, by omega, he, rfl, rfl, rfl, hP, hD, hS, lv_sub hl [2, 3, 4, 1, 0] rfl, rfl⟩
  · intro H locs k sl g hI
    obtain ⟨k9, i, ls, hp0, hp1, hp2, rfl, rfl, hP, hD, hS, hl, rfl⟩ := hI
    refine lv_iload hx hb dX6_seenBy_5 (lv_at hl 4 rfl) ?_
    refine lv_bipush (v := 120) hx hb dX6_seenBy_7 (by decide) ?_
    refine lv_icmp_ge (tgt := 47) hx hb dX6_seenBy_9 (by decide) (fun c_1 => ?_) (fun c_1 => absurd ((nI_leI (a := 120) (b := i) (by omega) (by omega)).mpr (by omega)) c_1)
    refine lv_bipush (v := (-9)) hx hb dX6_seenBy_47 (by decide) ?_
    exact c_iret (v := (-9)) hx hb hr hK hP hD hS hC hh hpp ⟨AW.rf, ⟨rfl, by rw [← hp2]; rfl⟩⟩ dX6_seenBy_49 hlocks
  · intro j ih9 H locs k sl g hI
    obtain ⟨k9, i, ls, hp0, hp1, hp2, rfl, rfl, hP, hD, hS, hl, rfl⟩ := hI
    have hsz := hR.sz
    refine lv_iload hx hb dX6_seenBy_5 (lv_at hl 4 rfl) ?_
    refine lv_bipush (v := 120) hx hb dX6_seenBy_7 (by decide) ?_
    refine lv_icmp_ge (tgt := 47) hx hb dX6_seenBy_9 (by decide) (fun c_2 => absurd c_2 (fun h => by have h2 := (nI_leI (a := 120) (b := i) (by omega) (by omega)).mp h; omega)) (fun c_2 => ?_)
    refine lv_iload_n hx hb dX6_seenBy_12 rfl (lv_at hl 3 rfl) ?_
    refine lv_bipush (v := (-9)) hx hb dX6_seenBy_13 (by decide) ?_
    refine lv_icmp_eq (tgt := 47) hx hb dX6_seenBy_15 (by decide) (fun c_3 => ?_) (fun c_3 => ?_)
    · skip
      refine lv_bipush (v := (-9)) hx hb dX6_seenBy_47 (by decide) ?_
      exact c_iret (v := (-9)) hx hb hr hK hP hD hS hC hh hpp ⟨AW.rf, ⟨rfl, by rw [← hp2, (sgt_9 (show k9 < 1000 by have := hR.sz; omega)).mp c_3]; rfl⟩⟩ dX6_seenBy_49 hlocks
    · skip
      refine lv_aload_n hx hb dX6_seenBy_18 rfl (lv_at hl 0 rfl) ?_
      refine va_get (D := gD G) (ci := 6) (v := .ref (kH S 31)) (C := RX6) (T := TX6) (N := 14) hx hb htu cu_in6 hown hK hP 5 cw_5 rfl 6 (by decide) (htu _ C_156) (fun _ h9 => h9) rfl dX6_seenBy_19 ?_
      refine lv_iload_n hx hb dX6_seenBy_22 rfl (lv_at hl 3 rfl) ?_
      have hC0 := hC
      refine c_ci (c_runV (As := [.int (sgt k9)]) (rest := []) (q0 := (2 * 31 + 13)) (ci := 0) ⟨hx, hb, hml, hown, htu⟩ (c_getA l G S 31 (lt35 (by decide)) hC (kH S 31) rfl (sgt k9) H) (cwV 1 htu hU_X6_131 rfl rfl rfl (by decide +kernel) ⟨Nat.le_of_ble_eq_true rfl, Nat.le_of_ble_eq_true rfl⟩) hP hK hD hC hpp (c_hd rfl (cw_row (lt35 (by decide)))) rfl rfl hl.1 rfl (lv_room (Nat.le_of_ble_eq_true rfl)) dX6_seenBy_23) hS hD hh hpp (fun r_4 S_5 H locs hw_6 hP hD hS hC hh hs_7 hpp => ?_)
      obtain ⟨hu9, hw_6⟩ := hw_6
      have hu9 := hu9.symm
      subst hu9
      have hk0 : k9 ≠ 0 := fun z => c_3 ((sgt_9 (by omega)).mpr z)
      have h31 : r_4 = nI (ele ws (k9 - 1)) := hw_6.trans (by rw [sgt_p hk0]; exact hR.g31 (by omega))
      refine lv_iload_n hx hb dX6_seenBy_26 rfl (lv_at hl 1 rfl) ?_
      refine lv_icmp_ne (tgt := 32) hx hb dX6_seenBy_27 (by decide) (fun c_8 => ?_) (fun c_8 => ?_)
      · skip
        refine lv_aload_n hx hb dX6_seenBy_32 rfl (lv_at hl 0 rfl) ?_
        refine va_get (D := gD G) (ci := 6) (v := .ref (kH S 34)) (C := RX6) (T := TX6) (N := 14) hx hb htu cu_in6 hown hK hP 5 cw_5 rfl 9 (by decide) (htu _ C_159) (fun _ h9 => h9) rfl dX6_seenBy_33 ?_
        refine lv_iload_n hx hb dX6_seenBy_36 rfl (lv_at hl 3 rfl) ?_
        have hC0 := hC
        refine c_ci (c_runV (As := [.int (sgt k9)]) (rest := []) (q0 := (2 * 34 + 13)) (ci := 0) ⟨hx, hb, hml, hown, htu⟩ (c_getA l G S 34 (lt35 (by decide)) hC (kH S 34) rfl (sgt k9) H) (cwV 1 htu hU_X6_131 rfl rfl rfl (by decide +kernel) ⟨Nat.le_of_ble_eq_true rfl, Nat.le_of_ble_eq_true rfl⟩) hP hK hD hC hpp (c_hd rfl (cw_row (lt35 (by decide)))) rfl rfl hl.1 rfl (lv_room (Nat.le_of_ble_eq_true rfl)) dX6_seenBy_37) hS hD hh hpp (fun r_9 S_10 H locs hw_11 hP hD hS hC hh hs_12 hpp => ?_)
        obtain ⟨hu9, hw_11⟩ := hw_11
        have hu9 := hu9.symm
        subst hu9
        obtain rfl : r_9 = sgt (enx ws (k9 - 1)) := hw_11.trans (by rw [sgt_p hk0]; exact hR.g34 (by omega))
        refine lv_istore_n (lv' := [(3, .int (sgt (enx ws (k9 - 1)))), (0, .ref (ga G 5)), (1, .int (nI le)), (2, .int (sgt e9)), (4, .int (nI i))]) hx hb dX6_seenBy_40 rfl hl (by decide) rfl (fun ls hl => ?_)
        refine lv_iinc (v := nI (i + 1)) (lv' := [(4, .int (nI (i + 1))), (3, .int (sgt (enx ws (k9 - 1)))), (0, .ref (ga G 5)), (1, .int (nI le)), (2, .int (sgt e9))]) hx hb dX6_seenBy_41 hl (k := 4) rfl (nI_1 i) (by decide) rfl (fun ls hl => ?_)
        refine lv_goto (tgt := 5) hx hb dX6_seenBy_44 (by decide) ?_
        exact ih9 _ _ _ _ _ ⟨(enx ws (k9 - 1)), i + 1, ls, by omega, (Nat.le_trans (hWf.2 (k9 - 1) (by omega)).1 (by omega)), (by rw [← hp2]; symm; show (if k9 = 0 then 0 else if ele ws (k9 - 1) = le then k9 else wmk ws le j (enx ws (k9 - 1))) = _; rw [if_neg hk0, if_neg (fun z => c_8 (h31.trans (congrArg nI z)))]), rfl, rfl, hP, hD, hS, lv_sub hl [2, 3, 4, 1, 0] rfl, rfl⟩
      · skip
        refine lv_iload_n hx hb dX6_seenBy_30 rfl (lv_at hl 3 rfl) ?_
        exact c_iret (v := sgt k9) hx hb hr hK hP hD hS hC hh hpp ⟨AW.rf, ⟨rfl, by rw [← hp2]; show sgt k9 = sgt (if k9 = 0 then 0 else if ele ws (k9 - 1) = le then k9 else wmk ws le _ (enx ws (k9 - 1))); rw [if_neg hk0, if_pos ((nI_eq (by have := (hWf.2 (k9 - 1) (by omega)).2.2.2.2; omega) (by omega)).mp (h31.symm.trans c_8))]⟩⟩ dX6_seenBy_31 hlocks

