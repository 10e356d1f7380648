set_option maxHeartbeats 4000000 in
set_option maxRecDepth 100000 in
/-- addNode, case C -/
theorem z_addNodeC (l : Launch) (G : cG) (S : cS) (tk : Nat) (N : Nat) (kd : Int32) (vv : Int32) (na : Int32) (nb : Int32) (nc : Int32) (hC : CL S) (hT : TI S N) (hN : N < 120) (hk0 : ¬ kd = 0) (hk1 : ¬ kd = 1) (hk2 : p_hasL kd = 0) (Hs : Heap) : Met l yX3_addNode (wC yX3_addNode cX3_addNode 9 (some .int)) (cRm S 3 103) (cPcZ tk G S Hs [.ref (ga G 1), .int kd, .int vv, .int na, .int nb, .int nc]) (cQi G S Hs (fun v u => AW [0, 1, 2, 3, 4, 5] [] S u ∧ (v = nI N ∧ ANP S u N kd vv na nb nc))) (CC - PT S) (12 * (CC - PT S)) (cA G S Hs.size) := by
  refine Met.ofW (cc := cX3_addNode) (maxL := 9) (ret := (some .int)) (by decide) rfl ?_
  intro p e s m args below meth c s₁ B hml hv
  obtain ⟨rfl, hsz, hP, hK, hD0, -, hZ⟩ := hv
  have hx := B.exec
  have hb := B.bytes
  have hr := B.returns
  have htu : ∀ w ∈ CU, w.before _ s = true := fun w h => atoms_spec (ws := (wC yX3_addNode cX3_addNode 9 (some .int))) B.pre w (List.mem_cons_of_mem _ h)
  have hown : s.vm.findClass RX3 = some m.cls := findClass_of_methodNamed B.named
  have hlocks := B.notSynchronized
  subst hsz
  have hD : cD (cA G S s.heap.size) G S := cD_self hD0
  have hl := lv_entry ([.ref (ga G 1), .int kd, .int vv, .int na, .int nb, .int nc]) (n := 9) (Nat.le_of_ble_eq_true rfl)
  rw [lg_entry_eq]
  generalize (lg_sl ([.ref (ga G 1), .int kd, .int vv, .int na, .int nb, .int nc]) ++ List.replicate (9 - (lg_sl ([.ref (ga G 1), .int kd, .int vv, .int na, .int nb, .int nc])).length) Slot.unset).toArray = ls at hl ⊢
  have hl : lv_has ls 9 [(0, .ref (ga G 1)), (1, .int kd), (2, .int vv), (3, .int na), (4, .int nb), (5, .int nc)] := hl
  obtain ⟨H, hHe⟩ : ∃ H : Heap, H = s.heap := ⟨_, rfl⟩
  rw [← hHe] at hP
  have hS : va_S (cA G S s.heap.size) s.heap H [] := by rw [hHe]; exact va_S.rf
  have hh : HS S S := HS.rf
  have hpp : PT S ≤ PT S := Nat.le_refl _
  have hB9 := hC.1
  refine W.heq hHe ?_
  refine c_ent (S := S) ?_
  obtain ⟨hN0, t0, t1, t2, t3, t4, t5⟩ := id hT
  refine lv_aload_n hx hb dX3_addNode_0 rfl (lv_at hl 0 rfl) ?_
  refine va_get (D := gD G) (ci := 3) (v := .ref (kH S 0)) (C := RX3) (T := TX3) (N := 6) hx hb htu cu_in3 hown hK hP 1 cw_1 rfl 0 (by decide) (htu _ C_26) (fun _ h9 => h9) rfl dX3_addNode_1 ?_
  refine va_get (D := gD G) (ci := 0) (v := .int (nI N)) (C := RX0) (T := TX0) (N := 2) hx hb htu cu_in0 hown hK hP (2 * 0 + 13) (c_hd rfl (cw_row (lt35 (by decide)))) rfl 1 (by decide) (htu _ C_208) (fun _ h9 => h9) (m_v (congrArg nI t0)) dX3_addNode_4 ?_
  refine lv_istore (lv' := [(6, .int (nI N)), (0, .ref (ga G 1)), (1, .int kd), (2, .int vv), (3, .int na), (4, .int nb), (5, .int nc)]) hx hb dX3_addNode_7 hl (by decide) rfl (fun ls hl => ?_)
  refine lv_iload_n hx hb dX3_addNode_9 rfl (lv_at hl 2 rfl) ?_
  refine lv_if_eq (tgt := 25) hx hb dX3_addNode_10 (by decide) (fun c_1 => absurd c_1 hk0) (fun c_1 => ?_)
  refine lv_iload_n hx hb dX3_addNode_13 rfl (lv_at hl 2 rfl) ?_
  refine lv_iconst (v := 1) hx hb dX3_addNode_14 (by decide) ?_
  refine lv_icmp_eq (tgt := 25) hx hb dX3_addNode_15 (by decide) (fun c_2 => absurd c_2 hk1) (fun c_2 => ?_)
  refine lv_iload_n hx hb dX3_addNode_18 rfl (lv_at hl 2 rfl) ?_
  have hC0 := hC
  refine c_ci (c_runS (As := [.int kd]) (rest := []) ⟨hx, hb, hml, hown, htu⟩ (z_hasLetter l G S kd hC  H) (va_cwS 1 htu hU_X3_41 rfl rfl rfl (by decide +kernel) ⟨Nat.le_of_ble_eq_true rfl, Nat.le_of_ble_eq_true rfl⟩) hP hK hD hC hpp rfl hl.1 rfl (lv_room (Nat.le_of_ble_eq_true rfl)) dX3_addNode_19) hS hD hh hpp (fun r_3 S_4 H locs hw_5 hP hD hS hC hh hs_6 hpp => ?_)
  obtain ⟨-, hu9, hw_5⟩ := hw_5
  have hu9 := hu9.symm
  subst hu9
  refine lv_if_eq (tgt := 29) hx hb dX3_addNode_22 (by decide) (fun c_7 => ?_) (fun c_7 => absurd (hw_5.trans hk2) c_7)
  refine lv_iconst (v := 0) hx hb dX3_addNode_29 (by decide) ?_
  refine lv_istore (lv' := [(7, .int 0), (6, .int (nI N)), (0, .ref (ga G 1)), (1, .int kd), (2, .int vv), (3, .int na), (4, .int nb), (5, .int nc)]) hx hb dX3_addNode_30 hl (by decide) rfl (fun ls hl => ?_)
  refine lv_aload_n hx hb dX3_addNode_32 rfl (lv_at hl 2 rfl) ?_
  refine va_get (D := gD G) (ci := 3) (v := .ref (kH S 0)) (C := RX3) (T := TX3) (N := 6) hx hb htu cu_in3 hown hK hP 1 cw_1 rfl 0 (by decide) (htu _ C_26) (fun _ h9 => h9) rfl dX3_addNode_33 ?_
  refine lv_iload_n hx hb dX3_addNode_36 rfl (lv_at hl 3 rfl) ?_
  have hC0 := hC
  refine c_cv (c_runV (As := [.int kd]) (rest := []) (q0 := (2 * 0 + 13)) (ci := 0) ⟨hx, hb, hml, hown, htu⟩ (c_addA l G S 0 (lt35 (by decide)) hC (kH S 0) rfl kd (ad7 t0 hN lim_0) H) (cwV 1 htu hU_X3_64 rfl rfl rfl (by decide +kernel) ⟨Nat.le_of_ble_eq_true rfl, Nat.le_of_ble_eq_true rfl⟩) hP hK hD hC hpp (c_hd rfl (cw_row (lt35 (by decide)))) rfl rfl hl.1 rfl (lv_room (Nat.le_of_ble_eq_true rfl)) dX3_addNode_37) hS hD hh hpp (fun S_9 H locs hw_10 hP hD hS hC hh hs_11 hpp => ?_)
  try dsimp only at hw_10
  have aw_12 : AW [0] [] S S_9 := (by obtain ⟨_, _, _, h9, -, -⟩ := hw_10; rw [h9]; exact AW.u (by decide))
  have aw_12t : AW [0, 1, 2, 3, 4, 5] [] S S_9 := AW.rf.tr (aw_12.mono (by decide) (by decide))
  have kk_13 : kK S_9 1 = N := (aw_12.2.1 1 (lt35 (by decide)) (by decide)).2.trans t1
  have kk_14 : kK S_9 2 = N := (aw_12.2.1 2 (lt35 (by decide)) (by decide)).2.trans t2
  have kk_15 : kK S_9 3 = N := (aw_12.2.1 3 (lt35 (by decide)) (by decide)).2.trans t3
  have kk_16 : kK S_9 4 = 6 * N := (aw_12.2.1 4 (lt35 (by decide)) (by decide)).2.trans t4
  have kk_17 : kK S_9 5 = 6 * N := (aw_12.2.1 5 (lt35 (by decide)) (by decide)).2.trans t5
  obtain ⟨ad_18n, ad_18q, ad_18g, ad_18u, ad_181, ad_182⟩ := hw_10
  have kk_19 : kK S_9 0 = N + 1 := by rw [ad_18u]; exact uR_K.trans (congrArg (· + 1) t0)
  have gg_20 := ad_F2 ad_18u ad_181 ad_182 t0
  have gg_20o : kF S 0 = kF S 0 := rfl
  rw [gg_20o] at gg_20
  refine lv_aload_n hx hb dX3_addNode_40 rfl (lv_at hl 2 rfl) ?_
  refine va_get (D := gD G) (ci := 3) (v := .ref (kH S 1)) (C := RX3) (T := TX3) (N := 6) hx hb htu cu_in3 hown hK hP 1 cw_1 rfl 1 (by decide) (htu _ C_27) (fun _ h9 => h9) (c_hv (hh.2 1 (lt35 (by decide)))) dX3_addNode_41 ?_
  refine lv_iload hx hb dX3_addNode_44 (lv_at hl 0 rfl) ?_
  refine lv_if_eq (tgt := 53) hx hb dX3_addNode_46 (by decide) (fun c_21 => ?_) (fun c_21 => absurd (by decide) c_21)
  refine lv_bipush (v := (-9)) hx hb dX3_addNode_53 (by decide) ?_
  have hM : t_hasM kd = 0 := by unfold t_hasM; rw [if_neg c_1, if_neg c_2, if_pos (hw_5.symm.trans c_7)]
  have hmk : t_mark kd vv = (-9) := by unfold t_mark; rw [hM, if_pos rfl]
  have hC0 := hC
  refine c_cv (c_runV (As := [.int ((-9))]) (rest := []) (q0 := (2 * 1 + 13)) (ci := 0) ⟨hx, hb, hml, hown, htu⟩ (c_addA l G S_9 1 (lt35 (by decide)) hC (kH S 1) (hh.2 1 (lt35 (by decide))) ((-9)) (ad7 kk_13 hN lim_1) H) (cwV 1 htu hU_X3_64 rfl rfl rfl (by decide +kernel) ⟨Nat.le_of_ble_eq_true rfl, Nat.le_of_ble_eq_true rfl⟩) hP hK hD hC hpp (c_hd (hh.2 1 (lt35 (by decide))) (cw_row (lt35 (by decide)))) rfl rfl hl.1 rfl (lv_room (Nat.le_of_ble_eq_true rfl)) dX3_addNode_55) hS hD hh hpp (fun S_23 H locs hw_24 hP hD hS hC hh hs_25 hpp => ?_)
  try dsimp only at hw_24
  have aw_26 : AW [1] [] S_9 S_23 := (by obtain ⟨_, _, _, h9, -, -⟩ := hw_24; rw [h9]; exact AW.u (by decide))
  have aw_26t : AW [0, 1, 2, 3, 4, 5] [] S S_23 := aw_12t.tr (aw_26.mono (by decide) (by decide))
  have kk_27 : kK S_23 2 = N := (aw_26.2.1 2 (lt35 (by decide)) (by decide)).2.trans kk_14
  have kk_28 : kK S_23 3 = N := (aw_26.2.1 3 (lt35 (by decide)) (by decide)).2.trans kk_15
  have kk_29 : kK S_23 4 = 6 * N := (aw_26.2.1 4 (lt35 (by decide)) (by decide)).2.trans kk_16
  have kk_30 : kK S_23 5 = 6 * N := (aw_26.2.1 5 (lt35 (by decide)) (by decide)).2.trans kk_17
  have kk_31 : kK S_23 0 = N + 1 := (aw_26.2.1 0 (lt35 (by decide)) (by decide)).2.trans kk_19
  obtain ⟨ad_32n, ad_32q, ad_32g, ad_32u, ad_321, ad_322⟩ := hw_24
  have kk_33 : kK S_23 1 = N + 1 := by rw [ad_32u]; exact uR_K.trans (congrArg (· + 1) kk_13)
  have gg_34 := ad_F2 ad_32u ad_321 ad_322 kk_13
  have gg_34o : kF S_9 1 = kF S 1 := ((aw_12.2.1 1 (lt35 (by decide)) (by decide)).1.trans rfl)
  rw [gg_34o] at gg_34
  rw [← hmk] at gg_34
  refine lv_aload_n hx hb dX3_addNode_58 rfl (lv_at hl 2 rfl) ?_
  refine va_get (D := gD G) (ci := 3) (v := .ref (kH S 2)) (C := RX3) (T := TX3) (N := 6) hx hb htu cu_in3 hown hK hP 1 cw_1 rfl 2 (by decide) (htu _ C_28) (fun _ h9 => h9) (c_hv (hh.2 2 (lt35 (by decide)))) dX3_addNode_59 ?_
  refine lv_bipush (v := (-9)) hx hb dX3_addNode_62 (by decide) ?_
  have hC0 := hC
  refine c_cv (c_runV (As := [.int ((-9))]) (rest := []) (q0 := (2 * 2 + 13)) (ci := 0) ⟨hx, hb, hml, hown, htu⟩ (c_addA l G S_23 2 (lt35 (by decide)) hC (kH S 2) (hh.2 2 (lt35 (by decide))) ((-9)) (ad7 kk_27 hN lim_2) H) (cwV 1 htu hU_X3_64 rfl rfl rfl (by decide +kernel) ⟨Nat.le_of_ble_eq_true rfl, Nat.le_of_ble_eq_true rfl⟩) hP hK hD hC hpp (c_hd (hh.2 2 (lt35 (by decide))) (cw_row (lt35 (by decide)))) rfl rfl hl.1 rfl (lv_room (Nat.le_of_ble_eq_true rfl)) dX3_addNode_64) hS hD hh hpp (fun S_36 H locs hw_37 hP hD hS hC hh hs_38 hpp => ?_)
  try dsimp only at hw_37
  have aw_39 : AW [2] [] S_23 S_36 := (by obtain ⟨_, _, _, h9, -, -⟩ := hw_37; rw [h9]; exact AW.u (by decide))
  have aw_39t : AW [0, 1, 2, 3, 4, 5] [] S S_36 := aw_26t.tr (aw_39.mono (by decide) (by decide))
  have kk_40 : kK S_36 3 = N := (aw_39.2.1 3 (lt35 (by decide)) (by decide)).2.trans kk_28
  have kk_41 : kK S_36 4 = 6 * N := (aw_39.2.1 4 (lt35 (by decide)) (by decide)).2.trans kk_29
  have kk_42 : kK S_36 5 = 6 * N := (aw_39.2.1 5 (lt35 (by decide)) (by decide)).2.trans kk_30
  have kk_43 : kK S_36 0 = N + 1 := (aw_39.2.1 0 (lt35 (by decide)) (by decide)).2.trans kk_31
  have kk_44 : kK S_36 1 = N + 1 := (aw_39.2.1 1 (lt35 (by decide)) (by decide)).2.trans kk_33
  obtain ⟨ad_45n, ad_45q, ad_45g, ad_45u, ad_451, ad_452⟩ := hw_37
  have kk_46 : kK S_36 2 = N + 1 := by rw [ad_45u]; exact uR_K.trans (congrArg (· + 1) kk_27)
  have gg_47 := ad_F2 ad_45u ad_451 ad_452 kk_27
  have gg_47o : kF S_23 2 = kF S 2 := ((aw_26.2.1 2 (lt35 (by decide)) (by decide)).1.trans ((aw_12.2.1 2 (lt35 (by decide)) (by decide)).1.trans rfl))
  rw [gg_47o] at gg_47
  refine lv_aload_n hx hb dX3_addNode_67 rfl (lv_at hl 2 rfl) ?_
  refine va_get (D := gD G) (ci := 3) (v := .ref (kH S 3)) (C := RX3) (T := TX3) (N := 6) hx hb htu cu_in3 hown hK hP 1 cw_1 rfl 3 (by decide) (htu _ C_29) (fun _ h9 => h9) (c_hv (hh.2 3 (lt35 (by decide)))) dX3_addNode_68 ?_
  refine lv_iconst (v := 0) hx hb dX3_addNode_71 (by decide) ?_
  have hC0 := hC
  refine c_cv (c_runV (As := [.int 0]) (rest := []) (q0 := (2 * 3 + 13)) (ci := 0) ⟨hx, hb, hml, hown, htu⟩ (c_addA l G S_36 3 (lt35 (by decide)) hC (kH S 3) (hh.2 3 (lt35 (by decide))) 0 (ad7 kk_40 hN lim_3) H) (cwV 1 htu hU_X3_64 rfl rfl rfl (by decide +kernel) ⟨Nat.le_of_ble_eq_true rfl, Nat.le_of_ble_eq_true rfl⟩) hP hK hD hC hpp (c_hd (hh.2 3 (lt35 (by decide))) (cw_row (lt35 (by decide)))) rfl rfl hl.1 rfl (lv_room (Nat.le_of_ble_eq_true rfl)) dX3_addNode_72) hS hD hh hpp (fun S_49 H locs hw_50 hP hD hS hC hh hs_51 hpp => ?_)
  try dsimp only at hw_50
  have aw_52 : AW [3] [] S_36 S_49 := (by obtain ⟨_, _, _, h9, -, -⟩ := hw_50; rw [h9]; exact AW.u (by decide))
  have aw_52t : AW [0, 1, 2, 3, 4, 5] [] S S_49 := aw_39t.tr (aw_52.mono (by decide) (by decide))
  have kk_53 : kK S_49 4 = 6 * N := (aw_52.2.1 4 (lt35 (by decide)) (by decide)).2.trans kk_41
  have kk_54 : kK S_49 5 = 6 * N := (aw_52.2.1 5 (lt35 (by decide)) (by decide)).2.trans kk_42
  have kk_55 : kK S_49 0 = N + 1 := (aw_52.2.1 0 (lt35 (by decide)) (by decide)).2.trans kk_43
  have kk_56 : kK S_49 1 = N + 1 := (aw_52.2.1 1 (lt35 (by decide)) (by decide)).2.trans kk_44
  have kk_57 : kK S_49 2 = N + 1 := (aw_52.2.1 2 (lt35 (by decide)) (by decide)).2.trans kk_46
  obtain ⟨ad_58n, ad_58q, ad_58g, ad_58u, ad_581, ad_582⟩ := hw_50
  have kk_59 : kK S_49 3 = N + 1 := by rw [ad_58u]; exact uR_K.trans (congrArg (· + 1) kk_40)
  have gg_60 := ad_F2 ad_58u ad_581 ad_582 kk_40
  have gg_60o : kF S_36 3 = kF S 3 := ((aw_39.2.1 3 (lt35 (by decide)) (by decide)).1.trans ((aw_26.2.1 3 (lt35 (by decide)) (by decide)).1.trans ((aw_12.2.1 3 (lt35 (by decide)) (by decide)).1.trans rfl)))
  rw [gg_60o] at gg_60
  refine lv_iconst (v := 0) hx hb dX3_addNode_75 (by decide) ?_
  refine lv_istore (lv' := [(8, .int 0), (7, .int 0), (6, .int (nI N)), (0, .ref (ga G 1)), (1, .int kd), (2, .int vv), (3, .int na), (4, .int nb), (5, .int nc)]) hx hb dX3_addNode_76 hl (by decide) rfl (fun ls hl => ?_)
  have q0o : kF S_49 0 = kF S_9 0 := ((aw_52.2.1 0 (lt35 (by decide)) (by decide)).1.trans ((aw_39.2.1 0 (lt35 (by decide)) (by decide)).1.trans ((aw_26.2.1 0 (lt35 (by decide)) (by decide)).1.trans rfl)))
  have q0 := gg_20
  rw [← q0o] at q0
  have q1o : kF S_49 1 = kF S_23 1 := ((aw_52.2.1 1 (lt35 (by decide)) (by decide)).1.trans ((aw_39.2.1 1 (lt35 (by decide)) (by decide)).1.trans rfl))
  have q1 := gg_34
  rw [← q1o] at q1
  have q2o : kF S_49 2 = kF S_36 2 := ((aw_52.2.1 2 (lt35 (by decide)) (by decide)).1.trans rfl)
  have q2 := gg_47
  rw [← q2o] at q2
  have q3o : kF S_49 3 = kF S_49 3 := rfl
  have q3 := gg_60
  rw [← q3o] at q3
  have q4o : kF S_49 4 = kF S 4 := ((aw_52.2.1 4 (lt35 (by decide)) (by decide)).1.trans ((aw_39.2.1 4 (lt35 (by decide)) (by decide)).1.trans ((aw_26.2.1 4 (lt35 (by decide)) (by decide)).1.trans ((aw_12.2.1 4 (lt35 (by decide)) (by decide)).1.trans rfl))))
  have q5o : kF S_49 5 = kF S 5 := ((aw_52.2.1 5 (lt35 (by decide)) (by decide)).1.trans ((aw_39.2.1 5 (lt35 (by decide)) (by decide)).1.trans ((aw_26.2.1 5 (lt35 (by decide)) (by decide)).1.trans ((aw_12.2.1 5 (lt35 (by decide)) (by decide)).1.trans rfl))))
  have q0k := kk_55
  have q1k := kk_56
  have q2k := kk_57
  have q3k := kk_59
  refine w_loop (fun j H locs k sl g => ∃ (S1 : cS) (i : Nat) (ls : Array Slot), CL S1 ∧ HS S S1 ∧ PT S ≤ PT S1 ∧ AW [0, 1, 2, 3, 4, 5] [] S S1 ∧ i + j = 6 ∧ kK S1 4 = 6 * N + i ∧ kK S1 5 = 6 * N + i ∧ (∀ j, j < 6 * N → kF S1 4 j = kF S 4 j) ∧ (∀ w, w < i → kF S1 4 (6 * N + w) = -9) ∧ (∀ j, j < 6 * N → kF S1 5 j = kF S 5 j) ∧ (∀ w, w < i → kF S1 5 (6 * N + w) = -9) ∧ AW [4, 5] [] S_49 S1 ∧ k = PT S1 - PT S ∧ sl = 12 * (PT S1 - PT S) ∧ cP G S1 H ∧ cD (cA G S s.heap.size) G S1 ∧ va_S (cA G S s.heap.size) s.heap H locs ∧ lv_has ls 9 [(0, .ref (ga G 1)), (1, .int kd), (2, .int vv), (3, .int na), (4, .int nb), (5, .int nc), (6, .int (nI N)), (7, .int 0), (8, .int (nI i))] ∧ g = F0 m 78 ls []) ?_ ?_ 6 _ _ _ _ _ ⟨S_49, 0, ls, hC, hh, hpp, aw_52t, by omega, kk_53, kk_54, (fun j hj => by rw [q4o]), (fun w hw => absurd hw (Nat.not_lt_zero _)), (fun j hj => by rw [q5o]), (fun w hw => absurd hw (Nat.not_lt_zero _)), AW.rf, rfl, rfl, hP, hD, hS, lv_sub hl [3, 4, 5, 6, 7, 8, 2, 1, 0] rfl, rfl⟩
  · intro H locs k sl g hI
    obtain ⟨S1, i, ls, hC, hh, hpp, hAW, hp0, hp1, hp2, hp3, hp4, hp5, hp6, hp7, rfl, rfl, hP, hD, hS, hl, rfl⟩ := hI
    have i6 : i = 6 := by omega
    have z4 : ∀ w, w < 6 → kF S1 4 (6 * N + w) = -9 := fun w hw => hp4 w (by omega)
    have z5 : ∀ w, w < 6 → kF S1 5 (6 * N + w) = -9 := fun w hw => hp6 w (by omega)
    have z0 := q0
    rw [← (hp7.2.1 0 (lt35 (by decide)) (by decide)).1] at z0
    have z1 := q1
    rw [← (hp7.2.1 1 (lt35 (by decide)) (by decide)).1] at z1
    have z2 := q2
    rw [← (hp7.2.1 2 (lt35 (by decide)) (by decide)).1] at z2
    have z3 := q3
    rw [← (hp7.2.1 3 (lt35 (by decide)) (by decide)).1] at z3
    have ti1 : TI S1 (N + 1) := ⟨hN, (hp7.2.1 0 (lt35 (by decide)) (by decide)).2.trans q0k, (hp7.2.1 1 (lt35 (by decide)) (by decide)).2.trans q1k, (hp7.2.1 2 (lt35 (by decide)) (by decide)).2.trans q2k, (hp7.2.1 3 (lt35 (by decide)) (by decide)).2.trans q3k, hp1.trans (by omega), hp2.trans (by omega)⟩
    refine lv_iload hx hb dX3_addNode_78 (lv_at hl 8 rfl) ?_
    refine lv_bipush (v := 6) hx hb dX3_addNode_80 (by decide) ?_
    refine lv_icmp_ge (tgt := 109) hx hb dX3_addNode_82 (by decide) (fun c_61 => ?_) (fun c_61 => absurd (by rw [show i = 6 by omega]; decide) c_61)
    refine lv_iload_n hx hb dX3_addNode_109 rfl (lv_at hl 1 rfl) ?_
    have hC0 := hC
    refine c_ci (c_runSZ (As := [.int kd]) (rest := []) ⟨hx, hb, hml, hown, htu⟩ (z_partsOfKind l G S1 tk kd hC  H) (va_cwS 1 htu hU_X3_68 rfl rfl rfl (by decide +kernel) ⟨Nat.le_of_ble_eq_true rfl, Nat.le_of_ble_eq_true rfl⟩) hP hK hD hC hpp hS hZ rfl hl.1 rfl (lv_room (Nat.le_of_ble_eq_true rfl)) dX3_addNode_110) hS hD hh hpp (fun r_62 S_63 H locs hw_64 hP hD hS hC hh hs_65 hpp => ?_)
    obtain ⟨-, hu9, hw_64⟩ := hw_64
    have hu9 := hu9.symm
    subst hu9
    refine lv_istore (lv' := [(8, .int r_62), (0, .ref (ga G 1)), (1, .int kd), (2, .int vv), (3, .int na), (4, .int nb), (5, .int nc), (6, .int (nI N)), (7, .int 0)]) hx hb dX3_addNode_113 hl (by decide) rfl (fun ls hl => ?_)
    refine lv_iload hx hb dX3_addNode_115 (lv_at hl 0 rfl) ?_
    refine lv_iconst (v := 1) hx hb dX3_addNode_117 (by decide) ?_
    refine lv_icmp_lt (tgt := 130) hx hb dX3_addNode_118 (by decide) (fun c_66 => ?_) (fun c_66 => ?_)
    · skip
      refine lv_iload hx hb dX3_addNode_130 (lv_at hl 0 rfl) ?_
      refine lv_iconst (v := 2) hx hb dX3_addNode_132 (by decide) ?_
      refine lv_icmp_lt (tgt := 146) hx hb dX3_addNode_133 (by decide) (fun c_67 => ?_) (fun c_67 => absurd (Int32.lt_trans c_66 (by decide)) c_67)
      refine lv_iload hx hb dX3_addNode_146 (lv_at hl 0 rfl) ?_
      refine lv_iconst (v := 3) hx hb dX3_addNode_148 (by decide) ?_
      refine lv_icmp_lt (tgt := 162) hx hb dX3_addNode_149 (by decide) (fun c_68 => ?_) (fun c_68 => absurd (Int32.lt_trans c_66 (by decide)) c_68)
      refine lv_iload hx hb dX3_addNode_162 (lv_at hl 7 rfl) ?_
      exact c_iret (v := nI N) hx hb hr hK hP hD hS hC hh hpp ⟨hAW, ⟨rfl, ANP.mk0 hw_64 ⟨z0, z1, z2, z3, ⟨hp3, z4⟩, ⟨hp5, z5⟩⟩ ti1  c_66 c_67 c_68⟩⟩ dX3_addNode_164 hlocks
    · skip
      refine lv_aload_n hx hb dX3_addNode_121 rfl (lv_at hl 1 rfl) ?_
      refine lv_iload hx hb dX3_addNode_122 (lv_at hl 7 rfl) ?_
      refine lv_bipush (v := (-9)) hx hb dX3_addNode_124 (by decide) ?_
      refine lv_iload_n hx hb dX3_addNode_126 rfl (lv_at hl 4 rfl) ?_
      have hC0 := hC
      refine c_cv (c_runV (As := [.int (nI N), .int ((-9)), .int na]) (rest := []) (q0 := 1) (ci := 3) ⟨hx, hb, hml, hown, htu⟩ (tt_addPart l G S1 ((N + 1)) (nI N) ((-9)) na hC ti1 H) (cwV 3 htu hU_X3_71 rfl rfl rfl (by decide +kernel) ⟨Nat.le_of_ble_eq_true rfl, Nat.le_of_ble_eq_true rfl⟩) hP hK hD hC hpp cw_1 rfl rfl hl.1 rfl (lv_room (Nat.le_of_ble_eq_true rfl)) dX3_addNode_127) hS hD hh hpp (fun S_70 H locs hw_71 hP hD hS hC hh hs_72 hpp => ?_)
      try dsimp only at hw_71
      have aw_73 : AW [2, 3, 4, 5] [] S1 S_70 := hw_71.1
      have aw_73t : AW [0, 1, 2, 3, 4, 5] [] S S_70 := hAW.tr (aw_73.mono (by decide) (by decide))
      have ap_74 := hw_71.2
      have ap_74t : TI S_70 (N + 1) := by rw [ap_74]; exact ti1
      refine lv_iload hx hb dX3_addNode_130 (lv_at hl 0 rfl) ?_
      refine lv_iconst (v := 2) hx hb dX3_addNode_132 (by decide) ?_
      refine lv_icmp_lt (tgt := 146) hx hb dX3_addNode_133 (by decide) (fun c_75 => ?_) (fun c_75 => ?_)
      · skip
        refine lv_iload hx hb dX3_addNode_146 (lv_at hl 0 rfl) ?_
        refine lv_iconst (v := 3) hx hb dX3_addNode_148 (by decide) ?_
        refine lv_icmp_lt (tgt := 162) hx hb dX3_addNode_149 (by decide) (fun c_76 => ?_) (fun c_76 => absurd (Int32.lt_trans c_75 (by decide)) c_76)
        refine lv_iload hx hb dX3_addNode_162 (lv_at hl 7 rfl) ?_
        exact c_iret (v := nI N) hx hb hr hK hP hD hS hC hh hpp ⟨aw_73t, ⟨rfl, ANP.mk1 hw_64 ⟨z0, z1, z2, z3, ⟨hp3, z4⟩, ⟨hp5, z5⟩⟩ ap_74t ap_74 c_66 c_75 c_76⟩⟩ dX3_addNode_164 hlocks
      · skip
        refine lv_aload_n hx hb dX3_addNode_136 rfl (lv_at hl 1 rfl) ?_
        refine lv_iload hx hb dX3_addNode_137 (lv_at hl 7 rfl) ?_
        refine lv_bipush (v := (-9)) hx hb dX3_addNode_139 (by decide) ?_
        refine lv_iload hx hb dX3_addNode_141 (lv_at hl 5 rfl) ?_
        have hC0 := hC
        refine c_cv (c_runV (As := [.int (nI N), .int ((-9)), .int nb]) (rest := []) (q0 := 1) (ci := 3) ⟨hx, hb, hml, hown, htu⟩ (tt_addPart l G S_70 ((N + 1)) (nI N) ((-9)) nb hC ap_74t H) (cwV 3 htu hU_X3_71 rfl rfl rfl (by decide +kernel) ⟨Nat.le_of_ble_eq_true rfl, Nat.le_of_ble_eq_true rfl⟩) hP hK hD hC hpp cw_1 rfl rfl hl.1 rfl (lv_room (Nat.le_of_ble_eq_true rfl)) dX3_addNode_143) hS hD hh hpp (fun S_78 H locs hw_79 hP hD hS hC hh hs_80 hpp => ?_)
        try dsimp only at hw_79
        have aw_81 : AW [2, 3, 4, 5] [] S_70 S_78 := hw_79.1
        have aw_81t : AW [0, 1, 2, 3, 4, 5] [] S S_78 := aw_73t.tr (aw_81.mono (by decide) (by decide))
        have ap_82 := hw_79.2
        have ap_82t : TI S_78 (N + 1) := by rw [ap_82]; exact ap_74t
        refine lv_iload hx hb dX3_addNode_146 (lv_at hl 0 rfl) ?_
        refine lv_iconst (v := 3) hx hb dX3_addNode_148 (by decide) ?_
        refine lv_icmp_lt (tgt := 162) hx hb dX3_addNode_149 (by decide) (fun c_83 => ?_) (fun c_83 => ?_)
        · skip
          refine lv_iload hx hb dX3_addNode_162 (lv_at hl 7 rfl) ?_
          exact c_iret (v := nI N) hx hb hr hK hP hD hS hC hh hpp ⟨aw_81t, ⟨rfl, ANP.mk2 hw_64 ⟨z0, z1, z2, z3, ⟨hp3, z4⟩, ⟨hp5, z5⟩⟩ ap_82t ap_74 ap_82 c_66 c_75 c_83⟩⟩ dX3_addNode_164 hlocks
        · skip
          refine lv_aload_n hx hb dX3_addNode_152 rfl (lv_at hl 1 rfl) ?_
          refine lv_iload hx hb dX3_addNode_153 (lv_at hl 7 rfl) ?_
          refine lv_bipush (v := (-9)) hx hb dX3_addNode_155 (by decide) ?_
          refine lv_iload hx hb dX3_addNode_157 (lv_at hl 6 rfl) ?_
          have hC0 := hC
          refine c_cv (c_runV (As := [.int (nI N), .int ((-9)), .int nc]) (rest := []) (q0 := 1) (ci := 3) ⟨hx, hb, hml, hown, htu⟩ (tt_addPart l G S_78 ((N + 1)) (nI N) ((-9)) nc hC ap_82t H) (cwV 3 htu hU_X3_71 rfl rfl rfl (by decide +kernel) ⟨Nat.le_of_ble_eq_true rfl, Nat.le_of_ble_eq_true rfl⟩) hP hK hD hC hpp cw_1 rfl rfl hl.1 rfl (lv_room (Nat.le_of_ble_eq_true rfl)) dX3_addNode_159) hS hD hh hpp (fun S_85 H locs hw_86 hP hD hS hC hh hs_87 hpp => ?_)
          try dsimp only at hw_86
          have aw_88 : AW [2, 3, 4, 5] [] S_78 S_85 := hw_86.1
          have aw_88t : AW [0, 1, 2, 3, 4, 5] [] S S_85 := aw_81t.tr (aw_88.mono (by decide) (by decide))
          have ap_89 := hw_86.2
          have ap_89t : TI S_85 (N + 1) := by rw [ap_89]; exact ap_82t
          refine lv_iload hx hb dX3_addNode_162 (lv_at hl 7 rfl) ?_
          exact c_iret (v := nI N) hx hb hr hK hP hD hS hC hh hpp ⟨aw_88t, ⟨rfl, ANP.mk3 hw_64 ⟨z0, z1, z2, z3, ⟨hp3, z4⟩, ⟨hp5, z5⟩⟩ ap_89t ap_74 ap_82 ap_89 c_66 c_75 c_83⟩⟩ dX3_addNode_164 hlocks
  · intro j ih9 H locs k sl g hI
    obtain ⟨S1, i, ls, hC, hh, hpp, hAW, hp0, hp1, hp2, hp3, hp4, hp5, hp6, hp7, rfl, rfl, hP, hD, hS, hl, rfl⟩ := hI
    have i5 : i ≤ 5 := i5_of hp0
    refine lv_iload hx hb dX3_addNode_78 (lv_at hl 8 rfl) ?_
    refine lv_bipush (v := 6) hx hb dX3_addNode_80 (by decide) ?_
    refine lv_icmp_ge (tgt := 109) hx hb dX3_addNode_82 (by decide) (fun c_90 => absurd c_90 (nge6 i5)) (fun c_90 => ?_)
    refine lv_aload_n hx hb dX3_addNode_85 rfl (lv_at hl 0 rfl) ?_
    refine va_get (D := gD G) (ci := 3) (v := .ref (kH S 4)) (C := RX3) (T := TX3) (N := 6) hx hb htu cu_in3 hown hK hP 1 cw_1 rfl 4 (by decide) (htu _ C_30) (fun _ h9 => h9) (c_hv (hh.2 4 (lt35 (by decide)))) dX3_addNode_86 ?_
    refine lv_bipush (v := (-9)) hx hb dX3_addNode_89 (by decide) ?_
    have hC0 := hC
    refine c_cv (c_runV (As := [.int ((-9))]) (rest := []) (q0 := (2 * 4 + 13)) (ci := 0) ⟨hx, hb, hml, hown, htu⟩ (c_addA l G S1 4 (lt35 (by decide)) hC (kH S 4) (hh.2 4 (lt35 (by decide))) ((-9)) (ad6 hp1 hN i5 lim_4) H) (cwV 1 htu hU_X3_64 rfl rfl rfl (by decide +kernel) ⟨Nat.le_of_ble_eq_true rfl, Nat.le_of_ble_eq_true rfl⟩) hP hK hD hC hpp (c_hd (hh.2 4 (lt35 (by decide))) (cw_row (lt35 (by decide)))) rfl rfl hl.1 rfl (lv_room (Nat.le_of_ble_eq_true rfl)) dX3_addNode_91) hS hD hh hpp (fun S_92 H locs hw_93 hP hD hS hC hh hs_94 hpp => ?_)
    try dsimp only at hw_93
    have aw_95 : AW [4] [] S1 S_92 := (by obtain ⟨_, _, _, h9, -, -⟩ := hw_93; rw [h9]; exact AW.u (by decide))
    have aw_95t : AW [0, 1, 2, 3, 4, 5] [] S S_92 := hAW.tr (aw_95.mono (by decide) (by decide))
    have kk_96 : kK S_92 5 = 6 * N + i := (aw_95.2.1 5 (lt35 (by decide)) (by decide)).2.trans hp2
    obtain ⟨ad_97n, ad_97q, ad_97g, ad_97u, ad_971, ad_972⟩ := hw_93
    have kk_98 : kK S_92 4 = 6 * N + i + 1 := by rw [ad_97u]; exact uR_K.trans (congrArg (· + 1) hp1)
    have gg_99 := ad_F2 ad_97u ad_971 ad_972 hp1
    have gg_99s := six_s hp3 hp4 gg_99.1 gg_99.2
    refine lv_aload_n hx hb dX3_addNode_94 rfl (lv_at hl 0 rfl) ?_
    refine va_get (D := gD G) (ci := 3) (v := .ref (kH S 5)) (C := RX3) (T := TX3) (N := 6) hx hb htu cu_in3 hown hK hP 1 cw_1 rfl 5 (by decide) (htu _ C_31) (fun _ h9 => h9) (c_hv (hh.2 5 (lt35 (by decide)))) dX3_addNode_95 ?_
    refine lv_bipush (v := (-9)) hx hb dX3_addNode_98 (by decide) ?_
    have hC0 := hC
    refine c_cv (c_runV (As := [.int ((-9))]) (rest := []) (q0 := (2 * 5 + 13)) (ci := 0) ⟨hx, hb, hml, hown, htu⟩ (c_addA l G S_92 5 (lt35 (by decide)) hC (kH S 5) (hh.2 5 (lt35 (by decide))) ((-9)) (ad6 kk_96 hN i5 lim_5) H) (cwV 1 htu hU_X3_64 rfl rfl rfl (by decide +kernel) ⟨Nat.le_of_ble_eq_true rfl, Nat.le_of_ble_eq_true rfl⟩) hP hK hD hC hpp (c_hd (hh.2 5 (lt35 (by decide))) (cw_row (lt35 (by decide)))) rfl rfl hl.1 rfl (lv_room (Nat.le_of_ble_eq_true rfl)) dX3_addNode_100) hS hD hh hpp (fun S_101 H locs hw_102 hP hD hS hC hh hs_103 hpp => ?_)
    try dsimp only at hw_102
    have aw_104 : AW [5] [] S_92 S_101 := (by obtain ⟨_, _, _, h9, -, -⟩ := hw_102; rw [h9]; exact AW.u (by decide))
    have aw_104t : AW [0, 1, 2, 3, 4, 5] [] S S_101 := aw_95t.tr (aw_104.mono (by decide) (by decide))
    have kk_105 : kK S_101 4 = 6 * N + i + 1 := (aw_104.2.1 4 (lt35 (by decide)) (by decide)).2.trans kk_98
    obtain ⟨ad_106n, ad_106q, ad_106g, ad_106u, ad_1061, ad_1062⟩ := hw_102
    have kk_107 : kK S_101 5 = 6 * N + i + 1 := by rw [ad_106u]; exact uR_K.trans (congrArg (· + 1) kk_96)
    have gg_108 := ad_F2 ad_106u ad_1061 ad_1062 kk_96
    have gg_108o : kF S_92 5 = kF S1 5 := ((aw_95.2.1 5 (lt35 (by decide)) (by decide)).1.trans rfl)
    rw [gg_108o] at gg_108
    have gg_108s := six_s hp5 hp6 gg_108.1 gg_108.2
    refine lv_iinc (v := nI (i + 1)) (lv' := [(8, .int (nI (i + 1))), (0, .ref (ga G 1)), (1, .int kd), (2, .int vv), (3, .int na), (4, .int nb), (5, .int nc), (6, .int (nI N)), (7, .int 0)]) hx hb dX3_addNode_103 hl (k := 8) rfl (nI_1 i) (by decide) rfl (fun ls hl => ?_)
    refine lv_goto (tgt := 78) hx hb dX3_addNode_106 (by decide) ?_
    have fo_109 : kF S_101 4 = kF S_92 4 := ((aw_104.2.1 4 (lt35 (by decide)) (by decide)).1.trans rfl)
    have fo_109a : AW [4, 5] [] S_49 S_101 := hp7.tr ((aw_95.mono (by decide) (by decide)).tr (aw_104.mono (by decide) (by decide)))
    exact ih9 _ _ _ _ _ ⟨S_101, i + 1, ls, hC, hh, hpp, aw_104t, s6_of hp0, kk_105, kk_107, (by rw [fo_109]; exact gg_99s.1), (by rw [fo_109]; exact gg_99s.2), gg_108s.1, gg_108s.2, fo_109a, rfl, rfl, hP, hD, hS, lv_sub hl [1, 2, 3, 4, 5, 6, 7, 8, 0] rfl, rfl⟩

