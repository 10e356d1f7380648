set_option maxHeartbeats 4000000 in
set_option maxRecDepth 100000 in
/-- addNode, case B -/
theorem z_addNodeB (l : Launch) (G : cG) (S : cS) (tk : Nat) (N : Nat) (kd : Int32) (vv : Int32) (na : Int32) (nb : Int32) (nc : Int32) (hC : CL S) (hT : TI S N) (hN : N < 120) (hk0 : ¬ kd = 0) (hk1 : kd = 1) (Hs : Heap) : Met l yX3_addNode (wC yX3_addNode cX3_addNode 9 (some .int)) (cRm S 3 103) (cPcZ tk G S Hs [.ref (ga G 1), .int kd, .int vv, .int na, .int nb, .int nc]) (cQi G S Hs (fun v u => AW [0, 1, 2, 3, 4, 5] [] S u ∧ (v = nI N ∧ ANP S u N kd vv na nb nc))) (CC - PT S) (12 * (CC - PT S)) (cA G S Hs.size) := by
  refine Met.ofW (cc := cX3_addNode) (maxL := 9) (ret := (some .int)) (by decide) rfl ?_
  intro p e s m args below meth c s₁ B hml hv
  obtain ⟨rfl, hsz, hP, hK, hD0, -, hZ⟩ := hv
  have hx := B.exec
  have hb := B.bytes
  have hr := B.returns
  have htu : ∀ w ∈ CU, w.before _ s = true := fun w h => atoms_spec (ws := (wC yX3_addNode cX3_addNode 9 (some .int))) B.pre w (List.mem_cons_of_mem _ h)
  have hown : s.vm.findClass RX3 = some m.cls := findClass_of_methodNamed B.named
  have hlocks := B.notSynchronized
  subst hsz
  have hD : cD (cA G S s.heap.size) G S := cD_self hD0
  have hl := lv_entry ([.ref (ga G 1), .int kd, .int vv, .int na, .int nb, .int nc]) (n := 9) (Nat.le_of_ble_eq_true rfl)
  rw [lg_entry_eq]
  generalize (lg_sl ([.ref (ga G 1), .int kd, .int vv, .int na, .int nb, .int nc]) ++ List.replicate (9 - (lg_sl ([.ref (ga G 1), .int kd, .int vv, .int na, .int nb, .int nc])).length) Slot.unset).toArray = ls at hl ⊢
  have hl : lv_has ls 9 [(0, .ref (ga G 1)), (1, .int kd), (2, .int vv), (3, .int na), (4, .int nb), (5, .int nc)] := hl
  obtain ⟨H, hHe⟩ : ∃ H : Heap, H = s.heap := ⟨_, rfl⟩
  rw [← hHe] at hP
  have hS : va_S (cA G S s.heap.size) s.heap H [] := by rw [hHe]; exact va_S.rf
  have hh : HS S S := HS.rf
  have hpp : PT S ≤ PT S := Nat.le_refl _
  have hB9 := hC.1
  refine W.heq hHe ?_
  refine c_ent (S := S) ?_
  obtain ⟨hN0, t0, t1, t2, t3, t4, t5⟩ := id hT
  refine lv_aload_n hx hb dX3_addNode_0 rfl (lv_at hl 0 rfl) ?_
  refine va_get (D := gD G) (ci := 3) (v := .ref (kH S 0)) (C := RX3) (T := TX3) (N := 6) hx hb htu cu_in3 hown hK hP 1 cw_1 rfl 0 (by decide) (htu _ C_26) (fun _ h9 => h9) rfl dX3_addNode_1 ?_
  refine va_get (D := gD G) (ci := 0) (v := .int (nI N)) (C := RX0) (T := TX0) (N := 2) hx hb htu cu_in0 hown hK hP (2 * 0 + 13) (c_hd rfl (cw_row (lt35 (by decide)))) rfl 1 (by decide) (htu _ C_208) (fun _ h9 => h9) (m_v (congrArg nI t0)) dX3_addNode_4 ?_
  refine lv_istore (lv' := [(6, .int (nI N)), (0, .ref (ga G 1)), (1, .int kd), (2, .int vv), (3, .int na), (4, .int nb), (5, .int nc)]) hx hb dX3_addNode_7 hl (by decide) rfl (fun ls hl => ?_)
  refine lv_iload_n hx hb dX3_addNode_9 rfl (lv_at hl 2 rfl) ?_
  refine lv_if_eq (tgt := 25) hx hb dX3_addNode_10 (by decide) (fun c_1 => absurd c_1 hk0) (fun c_1 => ?_)
  refine lv_iload_n hx hb dX3_addNode_13 rfl (lv_at hl 2 rfl) ?_
  refine lv_iconst (v := 1) hx hb dX3_addNode_14 (by decide) ?_
  refine lv_icmp_eq (tgt := 25) hx hb dX3_addNode_15 (by decide) (fun c_2 => ?_) (fun c_2 => absurd hk1 c_2)
  refine lv_iconst (v := 1) hx hb dX3_addNode_25 (by decide) ?_
  refine lv_goto (tgt := 30) hx hb dX3_addNode_26 (by decide) ?_
  refine lv_istore (lv' := [(7, .int 1), (6, .int (nI N)), (0, .ref (ga G 1)), (1, .int kd), (2, .int vv), (3, .int na), (4, .int nb), (5, .int nc)]) hx hb dX3_addNode_30 hl (by decide) rfl (fun ls hl => ?_)
  refine lv_aload_n hx hb dX3_addNode_32 rfl (lv_at hl 2 rfl) ?_
  refine va_get (D := gD G) (ci := 3) (v := .ref (kH S 0)) (C := RX3) (T := TX3) (N := 6) hx hb htu cu_in3 hown hK hP 1 cw_1 rfl 0 (by decide) (htu _ C_26) (fun _ h9 => h9) rfl dX3_addNode_33 ?_
  refine lv_iload_n hx hb dX3_addNode_36 rfl (lv_at hl 3 rfl) ?_
  have hC0 := hC
  refine c_cv (c_runV (As := [.int kd]) (rest := []) (q0 := (2 * 0 + 13)) (ci := 0) ⟨hx, hb, hml, hown, htu⟩ (c_addA l G S 0 (lt35 (by decide)) hC (kH S 0) rfl kd (ad7 t0 hN lim_0) H) (cwV 1 htu hU_X3_64 rfl rfl rfl (by decide +kernel) ⟨Nat.le_of_ble_eq_true rfl, Nat.le_of_ble_eq_true rfl⟩) hP hK hD hC hpp (c_hd rfl (cw_row (lt35 (by decide)))) rfl rfl hl.1 rfl (lv_room (Nat.le_of_ble_eq_true rfl)) dX3_addNode_37) hS hD hh hpp (fun S_4 H locs hw_5 hP hD hS hC hh hs_6 hpp => ?_)
  try dsimp only at hw_5
  have aw_7 : AW [0] [] S S_4 := (by obtain ⟨_, _, _, h9, -, -⟩ := hw_5; rw [h9]; exact AW.u (by decide))
  have aw_7t : AW [0, 1, 2, 3, 4, 5] [] S S_4 := AW.rf.tr (aw_7.mono (by decide) (by decide))
  have kk_8 : kK S_4 1 = N := (aw_7.2.1 1 (lt35 (by decide)) (by decide)).2.trans t1
  have kk_9 : kK S_4 2 = N := (aw_7.2.1 2 (lt35 (by decide)) (by decide)).2.trans t2
  have kk_10 : kK S_4 3 = N := (aw_7.2.1 3 (lt35 (by decide)) (by decide)).2.trans t3
  have kk_11 : kK S_4 4 = 6 * N := (aw_7.2.1 4 (lt35 (by decide)) (by decide)).2.trans t4
  have kk_12 : kK S_4 5 = 6 * N := (aw_7.2.1 5 (lt35 (by decide)) (by decide)).2.trans t5
  obtain ⟨ad_13n, ad_13q, ad_13g, ad_13u, ad_131, ad_132⟩ := hw_5
  have kk_14 : kK S_4 0 = N + 1 := by rw [ad_13u]; exact uR_K.trans (congrArg (· + 1) t0)
  have gg_15 := ad_F2 ad_13u ad_131 ad_132 t0
  have gg_15o : kF S 0 = kF S 0 := rfl
  rw [gg_15o] at gg_15
  refine lv_aload_n hx hb dX3_addNode_40 rfl (lv_at hl 2 rfl) ?_
  refine va_get (D := gD G) (ci := 3) (v := .ref (kH S 1)) (C := RX3) (T := TX3) (N := 6) hx hb htu cu_in3 hown hK hP 1 cw_1 rfl 1 (by decide) (htu _ C_27) (fun _ h9 => h9) (c_hv (hh.2 1 (lt35 (by decide)))) dX3_addNode_41 ?_
  refine lv_iload hx hb dX3_addNode_44 (lv_at hl 0 rfl) ?_
  refine lv_if_eq (tgt := 53) hx hb dX3_addNode_46 (by decide) (fun c_16 => absurd c_16 (by decide)) (fun c_16 => ?_)
  refine lv_iload_n hx hb dX3_addNode_49 rfl (lv_at hl 4 rfl) ?_
  refine lv_goto (tgt := 55) hx hb dX3_addNode_50 (by decide) ?_
  have hM : t_hasM kd = 1 := by unfold t_hasM; rw [if_neg c_1, if_pos c_2]
  have hmk : t_mark kd vv = vv := by unfold t_mark; rw [hM, if_neg (by decide)]
  have hC0 := hC
  refine c_cv (c_runV (As := [.int vv]) (rest := []) (q0 := (2 * 1 + 13)) (ci := 0) ⟨hx, hb, hml, hown, htu⟩ (c_addA l G S_4 1 (lt35 (by decide)) hC (kH S 1) (hh.2 1 (lt35 (by decide))) vv (ad7 kk_8 hN lim_1) H) (cwV 1 htu hU_X3_64 rfl rfl rfl (by decide +kernel) ⟨Nat.le_of_ble_eq_true rfl, Nat.le_of_ble_eq_true rfl⟩) hP hK hD hC hpp (c_hd (hh.2 1 (lt35 (by decide))) (cw_row (lt35 (by decide)))) rfl rfl hl.1 rfl (lv_room (Nat.le_of_ble_eq_true rfl)) dX3_addNode_55) hS hD hh hpp (fun S_18 H locs hw_19 hP hD hS hC hh hs_20 hpp => ?_)
  try dsimp only at hw_19
  have aw_21 : AW [1] [] S_4 S_18 := (by obtain ⟨_, _, _, h9, -, -⟩ := hw_19; rw [h9]; exact AW.u (by decide))
  have aw_21t : AW [0, 1, 2, 3, 4, 5] [] S S_18 := aw_7t.tr (aw_21.mono (by decide) (by decide))
  have kk_22 : kK S_18 2 = N := (aw_21.2.1 2 (lt35 (by decide)) (by decide)).2.trans kk_9
  have kk_23 : kK S_18 3 = N := (aw_21.2.1 3 (lt35 (by decide)) (by decide)).2.trans kk_10
  have kk_24 : kK S_18 4 = 6 * N := (aw_21.2.1 4 (lt35 (by decide)) (by decide)).2.trans kk_11
  have kk_25 : kK S_18 5 = 6 * N := (aw_21.2.1 5 (lt35 (by decide)) (by decide)).2.trans kk_12
  have kk_26 : kK S_18 0 = N + 1 := (aw_21.2.1 0 (lt35 (by decide)) (by decide)).2.trans kk_14
  obtain ⟨ad_27n, ad_27q, ad_27g, ad_27u, ad_271, ad_272⟩ := hw_19
  have kk_28 : kK S_18 1 = N + 1 := by rw [ad_27u]; exact uR_K.trans (congrArg (· + 1) kk_8)
  have gg_29 := ad_F2 ad_27u ad_271 ad_272 kk_8
  have gg_29o : kF S_4 1 = kF S 1 := ((aw_7.2.1 1 (lt35 (by decide)) (by decide)).1.trans rfl)
  rw [gg_29o] at gg_29
  rw [← hmk] at gg_29
  refine lv_aload_n hx hb dX3_addNode_58 rfl (lv_at hl 2 rfl) ?_
  refine va_get (D := gD G) (ci := 3) (v := .ref (kH S 2)) (C := RX3) (T := TX3) (N := 6) hx hb htu cu_in3 hown hK hP 1 cw_1 rfl 2 (by decide) (htu _ C_28) (fun _ h9 => h9) (c_hv (hh.2 2 (lt35 (by decide)))) dX3_addNode_59 ?_
  refine lv_bipush (v := (-9)) hx hb dX3_addNode_62 (by decide) ?_
  have hC0 := hC
  refine c_cv (c_runV (As := [.int ((-9))]) (rest := []) (q0 := (2 * 2 + 13)) (ci := 0) ⟨hx, hb, hml, hown, htu⟩ (c_addA l G S_18 2 (lt35 (by decide)) hC (kH S 2) (hh.2 2 (lt35 (by decide))) ((-9)) (ad7 kk_22 hN lim_2) H) (cwV 1 htu hU_X3_64 rfl rfl rfl (by decide +kernel) ⟨Nat.le_of_ble_eq_true rfl, Nat.le_of_ble_eq_true rfl⟩) hP hK hD hC hpp (c_hd (hh.2 2 (lt35 (by decide))) (cw_row (lt35 (by decide)))) rfl rfl hl.1 rfl (lv_room (Nat.le_of_ble_eq_true rfl)) dX3_addNode_64) hS hD hh hpp (fun S_31 H locs hw_32 hP hD hS hC hh hs_33 hpp => ?_)
  try dsimp only at hw_32
  have aw_34 : AW [2] [] S_18 S_31 := (by obtain ⟨_, _, _, h9, -, -⟩ := hw_32; rw [h9]; exact AW.u (by decide))
  have aw_34t : AW [0, 1, 2, 3, 4, 5] [] S S_31 := aw_21t.tr (aw_34.mono (by decide) (by decide))
  have kk_35 : kK S_31 3 = N := (aw_34.2.1 3 (lt35 (by decide)) (by decide)).2.trans kk_23
  have kk_36 : kK S_31 4 = 6 * N := (aw_34.2.1 4 (lt35 (by decide)) (by decide)).2.trans kk_24
  have kk_37 : kK S_31 5 = 6 * N := (aw_34.2.1 5 (lt35 (by decide)) (by decide)).2.trans kk_25
  have kk_38 : kK S_31 0 = N + 1 := (aw_34.2.1 0 (lt35 (by decide)) (by decide)).2.trans kk_26
  have kk_39 : kK S_31 1 = N + 1 := (aw_34.2.1 1 (lt35 (by decide)) (by decide)).2.trans kk_28
  obtain ⟨ad_40n, ad_40q, ad_40g, ad_40u, ad_401, ad_402⟩ := hw_32
  have kk_41 : kK S_31 2 = N + 1 := by rw [ad_40u]; exact uR_K.trans (congrArg (· + 1) kk_22)
  have gg_42 := ad_F2 ad_40u ad_401 ad_402 kk_22
  have gg_42o : kF S_18 2 = kF S 2 := ((aw_21.2.1 2 (lt35 (by decide)) (by decide)).1.trans ((aw_7.2.1 2 (lt35 (by decide)) (by decide)).1.trans rfl))
  rw [gg_42o] at gg_42
  refine lv_aload_n hx hb dX3_addNode_67 rfl (lv_at hl 2 rfl) ?_
  refine va_get (D := gD G) (ci := 3) (v := .ref (kH S 3)) (C := RX3) (T := TX3) (N := 6) hx hb htu cu_in3 hown hK hP 1 cw_1 rfl 3 (by decide) (htu _ C_29) (fun _ h9 => h9) (c_hv (hh.2 3 (lt35 (by decide)))) dX3_addNode_68 ?_
  refine lv_iconst (v := 0) hx hb dX3_addNode_71 (by decide) ?_
  have hC0 := hC
  refine c_cv (c_runV (As := [.int 0]) (rest := []) (q0 := (2 * 3 + 13)) (ci := 0) ⟨hx, hb, hml, hown, htu⟩ (c_addA l G S_31 3 (lt35 (by decide)) hC (kH S 3) (hh.2 3 (lt35 (by decide))) 0 (ad7 kk_35 hN lim_3) H) (cwV 1 htu hU_X3_64 rfl rfl rfl (by decide +kernel) ⟨Nat.le_of_ble_eq_true rfl, Nat.le_of_ble_eq_true rfl⟩) hP hK hD hC hpp (c_hd (hh.2 3 (lt35 (by decide))) (cw_row (lt35 (by decide)))) rfl rfl hl.1 rfl (lv_room (Nat.le_of_ble_eq_true rfl)) dX3_addNode_72) hS hD hh hpp (fun S_44 H locs hw_45 hP hD hS hC hh hs_46 hpp => ?_)
  try dsimp only at hw_45
  have aw_47 : AW [3] [] S_31 S_44 := (by obtain ⟨_, _, _, h9, -, -⟩ := hw_45; rw [h9]; exact AW.u (by decide))
  have aw_47t : AW [0, 1, 2, 3, 4, 5] [] S S_44 := aw_34t.tr (aw_47.mono (by decide) (by decide))
  have kk_48 : kK S_44 4 = 6 * N := (aw_47.2.1 4 (lt35 (by decide)) (by decide)).2.trans kk_36
  have kk_49 : kK S_44 5 = 6 * N := (aw_47.2.1 5 (lt35 (by decide)) (by decide)).2.trans kk_37
  have kk_50 : kK S_44 0 = N + 1 := (aw_47.2.1 0 (lt35 (by decide)) (by decide)).2.trans kk_38
  have kk_51 : kK S_44 1 = N + 1 := (aw_47.2.1 1 (lt35 (by decide)) (by decide)).2.trans kk_39
  have kk_52 : kK S_44 2 = N + 1 := (aw_47.2.1 2 (lt35 (by decide)) (by decide)).2.trans kk_41
  obtain ⟨ad_53n, ad_53q, ad_53g, ad_53u, ad_531, ad_532⟩ := hw_45
  have kk_54 : kK S_44 3 = N + 1 := by rw [ad_53u]; exact uR_K.trans (congrArg (· + 1) kk_35)
  have gg_55 := ad_F2 ad_53u ad_531 ad_532 kk_35
  have gg_55o : kF S_31 3 = kF S 3 := ((aw_34.2.1 3 (lt35 (by decide)) (by decide)).1.trans ((aw_21.2.1 3 (lt35 (by decide)) (by decide)).1.trans ((aw_7.2.1 3 (lt35 (by decide)) (by decide)).1.trans rfl)))
  rw [gg_55o] at gg_55
  refine lv_iconst (v := 0) hx hb dX3_addNode_75 (by decide) ?_
  refine lv_istore (lv' := [(8, .int 0), (7, .int 1), (6, .int (nI N)), (0, .ref (ga G 1)), (1, .int kd), (2, .int vv), (3, .int na), (4, .int nb), (5, .int nc)]) hx hb dX3_addNode_76 hl (by decide) rfl (fun ls hl => ?_)
  have q0o : kF S_44 0 = kF S_4 0 := ((aw_47.2.1 0 (lt35 (by decide)) (by decide)).1.trans ((aw_34.2.1 0 (lt35 (by decide)) (by decide)).1.trans ((aw_21.2.1 0 (lt35 (by decide)) (by decide)).1.trans rfl)))
  have q0 := gg_15
  rw [← q0o] at q0
  have q1o : kF S_44 1 = kF S_18 1 := ((aw_47.2.1 1 (lt35 (by decide)) (by decide)).1.trans ((aw_34.2.1 1 (lt35 (by decide)) (by decide)).1.trans rfl))
  have q1 := gg_29
  rw [← q1o] at q1
  have q2o : kF S_44 2 = kF S_31 2 := ((aw_47.2.1 2 (lt35 (by decide)) (by decide)).1.trans rfl)
  have q2 := gg_42
  rw [← q2o] at q2
  have q3o : kF S_44 3 = kF S_44 3 := rfl
  have q3 := gg_55
  rw [← q3o] at q3
  have q4o : kF S_44 4 = kF S 4 := ((aw_47.2.1 4 (lt35 (by decide)) (by decide)).1.trans ((aw_34.2.1 4 (lt35 (by decide)) (by decide)).1.trans ((aw_21.2.1 4 (lt35 (by decide)) (by decide)).1.trans ((aw_7.2.1 4 (lt35 (by decide)) (by decide)).1.trans rfl))))
  have q5o : kF S_44 5 = kF S 5 := ((aw_47.2.1 5 (lt35 (by decide)) (by decide)).1.trans ((aw_34.2.1 5 (lt35 (by decide)) (by decide)).1.trans ((aw_21.2.1 5 (lt35 (by decide)) (by decide)).1.trans ((aw_7.2.1 5 (lt35 (by decide)) (by decide)).1.trans rfl))))
  have q0k := kk_50
  have q1k := kk_51
  have q2k := kk_52
  have q3k := kk_54
  refine w_loop (fun j H locs k sl g => ∃ (S1 : cS) (i : Nat) (ls : Array Slot), CL S1 ∧ HS S S1 ∧ PT S ≤ PT S1 ∧ AW [0, 1, 2, 3, 4, 5] [] S S1 ∧ i + j = 6 ∧ kK S1 4 = 6 * N + i ∧ kK S1 5 = 6 * N + i ∧ (∀ j, j < 6 * N → kF S1 4 j = kF S 4 j) ∧ (∀ w, w < i → kF S1 4 (6 * N + w) = -9) ∧ (∀ j, j < 6 * N → kF S1 5 j = kF S 5 j) ∧ (∀ w, w < i → kF S1 5 (6 * N + w) = -9) ∧ AW [4, 5] [] S_44 S1 ∧ k = PT S1 - PT S ∧ sl = 12 * (PT S1 - PT S) ∧ cP G S1 H ∧ cD (cA G S s.heap.size) G S1 ∧ va_S (cA G S s.heap.size) s.heap H locs ∧ lv_has ls 9 [(0, .ref (ga G 1)), (1, .int kd), (2, .int vv), (3, .int na), (4, .int nb), (5, .int nc), (6, .int (nI N)), (7, .int 1), (8, .int (nI i))] ∧ g = F0 m 78 ls []) ?_ ?_ 6 _ _ _ _ _ ⟨S_44, 0, ls, hC, hh, hpp, aw_47t, by omega, kk_48, kk_49, (fun j hj => by rw [q4o]), (fun w hw => absurd hw (Nat.not_lt_zero _)), (fun j hj => by rw [q5o]), (fun w hw => absurd hw (Nat.not_lt_zero _)), AW.rf, rfl, rfl, hP, hD, hS, lv_sub hl [3, 4, 5, 6, 7, 8, 2, 1, 0] rfl, rfl⟩
  · intro H locs k sl g hI
    obtain ⟨S1, i, ls, hC, hh, hpp, hAW, hp0, hp1, hp2, hp3, hp4, hp5, hp6, hp7, rfl, rfl, hP, hD, hS, hl, rfl⟩ := hI
    have i6 : i = 6 := by omega
    have z4 : ∀ w, w < 6 → kF S1 4 (6 * N + w) = -9 := fun w hw => hp4 w (by omega)
    have z5 : ∀ w, w < 6 → kF S1 5 (6 * N + w) = -9 := fun w hw => hp6 w (by omega)
    have z0 := q0
    rw [← (hp7.2.1 0 (lt35 (by decide)) (by decide)).1] at z0
    have z1 := q1
    rw [← (hp7.2.1 1 (lt35 (by decide)) (by decide)).1] at z1
    have z2 := q2
    rw [← (hp7.2.1 2 (lt35 (by decide)) (by decide)).1] at z2
    have z3 := q3
    rw [← (hp7.2.1 3 (lt35 (by decide)) (by decide)).1] at z3
    have ti1 : TI S1 (N + 1) := ⟨hN, (hp7.2.1 0 (lt35 (by decide)) (by decide)).2.trans q0k, (hp7.2.1 1 (lt35 (by decide)) (by decide)).2.trans q1k, (hp7.2.1 2 (lt35 (by decide)) (by decide)).2.trans q2k, (hp7.2.1 3 (lt35 (by decide)) (by decide)).2.trans q3k, hp1.trans (by omega), hp2.trans (by omega)⟩
    refine lv_iload hx hb dX3_addNode_78 (lv_at hl 8 rfl) ?_
    refine lv_bipush (v := 6) hx hb dX3_addNode_80 (by decide) ?_
    refine lv_icmp_ge (tgt := 109) hx hb dX3_addNode_82 (by decide) (fun c_56 => ?_) (fun c_56 => absurd (by rw [show i = 6 by omega]; decide) c_56)
    refine lv_iload_n hx hb dX3_addNode_109 rfl (lv_at hl 1 rfl) ?_
    have hC0 := hC
    refine c_ci (c_runSZ (As := [.int kd]) (rest := []) ⟨hx, hb, hml, hown, htu⟩ (z_partsOfKind l G S1 tk kd hC  H) (va_cwS 1 htu hU_X3_68 rfl rfl rfl (by decide +kernel) ⟨Nat.le_of_ble_eq_true rfl, Nat.le_of_ble_eq_true rfl⟩) hP hK hD hC hpp hS hZ rfl hl.1 rfl (lv_room (Nat.le_of_ble_eq_true rfl)) dX3_addNode_110) hS hD hh hpp (fun r_57 S_58 H locs hw_59 hP hD hS hC hh hs_60 hpp => ?_)
    obtain ⟨-, hu9, hw_59⟩ := hw_59
    have hu9 := hu9.symm
    subst hu9
    refine lv_istore (lv' := [(8, .int r_57), (0, .ref (ga G 1)), (1, .int kd), (2, .int vv), (3, .int na), (4, .int nb), (5, .int nc), (6, .int (nI N)), (7, .int 1)]) hx hb dX3_addNode_113 hl (by decide) rfl (fun ls hl => ?_)
    refine lv_iload hx hb dX3_addNode_115 (lv_at hl 0 rfl) ?_
    refine lv_iconst (v := 1) hx hb dX3_addNode_117 (by decide) ?_
    refine lv_icmp_lt (tgt := 130) hx hb dX3_addNode_118 (by decide) (fun c_61 => ?_) (fun c_61 => ?_)
    · skip
      refine lv_iload hx hb dX3_addNode_130 (lv_at hl 0 rfl) ?_
      refine lv_iconst (v := 2) hx hb dX3_addNode_132 (by decide) ?_
      refine lv_icmp_lt (tgt := 146) hx hb dX3_addNode_133 (by decide) (fun c_62 => ?_) (fun c_62 => absurd (Int32.lt_trans c_61 (by decide)) c_62)
      refine lv_iload hx hb dX3_addNode_146 (lv_at hl 0 rfl) ?_
      refine lv_iconst (v := 3) hx hb dX3_addNode_148 (by decide) ?_
      refine lv_icmp_lt (tgt := 162) hx hb dX3_addNode_149 (by decide) (fun c_63 => ?_) (fun c_63 => absurd (Int32.lt_trans c_61 (by decide)) c_63)
      refine lv_iload hx hb dX3_addNode_162 (lv_at hl 7 rfl) ?_
      exact c_iret (v := nI N) hx hb hr hK hP hD hS hC hh hpp ⟨hAW, ⟨rfl, ANP.mk0 hw_59 ⟨z0, z1, z2, z3, ⟨hp3, z4⟩, ⟨hp5, z5⟩⟩ ti1  c_61 c_62 c_63⟩⟩ dX3_addNode_164 hlocks
    · skip
      refine lv_aload_n hx hb dX3_addNode_121 rfl (lv_at hl 1 rfl) ?_
      refine lv_iload hx hb dX3_addNode_122 (lv_at hl 7 rfl) ?_
      refine lv_bipush (v := (-9)) hx hb dX3_addNode_124 (by decide) ?_
      refine lv_iload_n hx hb dX3_addNode_126 rfl (lv_at hl 4 rfl) ?_
      have hC0 := hC
      refine c_cv (c_runV (As := [.int (nI N), .int ((-9)), .int na]) (rest := []) (q0 := 1) (ci := 3) ⟨hx, hb, hml, hown, htu⟩ (tt_addPart l G S1 ((N + 1)) (nI N) ((-9)) na hC ti1 H) (cwV 3 htu hU_X3_71 rfl rfl rfl (by decide +kernel) ⟨Nat.le_of_ble_eq_true rfl, Nat.le_of_ble_eq_true rfl⟩) hP hK hD hC hpp cw_1 rfl rfl hl.1 rfl (lv_room (Nat.le_of_ble_eq_true rfl)) dX3_addNode_127) hS hD hh hpp (fun S_65 H locs hw_66 hP hD hS hC hh hs_67 hpp => ?_)
      try dsimp only at hw_66
      have aw_68 : AW [2, 3, 4, 5] [] S1 S_65 := hw_66.1
      have aw_68t : AW [0, 1, 2, 3, 4, 5] [] S S_65 := hAW.tr (aw_68.mono (by decide) (by decide))
      have ap_69 := hw_66.2
      have ap_69t : TI S_65 (N + 1) := by rw [ap_69]; exact ti1
      refine lv_iload hx hb dX3_addNode_130 (lv_at hl 0 rfl) ?_
      refine lv_iconst (v := 2) hx hb dX3_addNode_132 (by decide) ?_
      refine lv_icmp_lt (tgt := 146) hx hb dX3_addNode_133 (by decide) (fun c_70 => ?_) (fun c_70 => ?_)
      · skip
        refine lv_iload hx hb dX3_addNode_146 (lv_at hl 0 rfl) ?_
        refine lv_iconst (v := 3) hx hb dX3_addNode_148 (by decide) ?_
        refine lv_icmp_lt (tgt := 162) hx hb dX3_addNode_149 (by decide) (fun c_71 => ?_) (fun c_71 => absurd (Int32.lt_trans c_70 (by decide)) c_71)
        refine lv_iload hx hb dX3_addNode_162 (lv_at hl 7 rfl) ?_
        exact c_iret (v := nI N) hx hb hr hK hP hD hS hC hh hpp ⟨aw_68t, ⟨rfl, ANP.mk1 hw_59 ⟨z0, z1, z2, z3, ⟨hp3, z4⟩, ⟨hp5, z5⟩⟩ ap_69t ap_69 c_61 c_70 c_71⟩⟩ dX3_addNode_164 hlocks
      · skip
        refine lv_aload_n hx hb dX3_addNode_136 rfl (lv_at hl 1 rfl) ?_
        refine lv_iload hx hb dX3_addNode_137 (lv_at hl 7 rfl) ?_
        refine lv_bipush (v := (-9)) hx hb dX3_addNode_139 (by decide) ?_
        refine lv_iload hx hb dX3_addNode_141 (lv_at hl 5 rfl) ?_
        have hC0 := hC
        refine c_cv (c_runV (As := [.int (nI N), .int ((-9)), .int nb]) (rest := []) (q0 := 1) (ci := 3) ⟨hx, hb, hml, hown, htu⟩ (tt_addPart l G S_65 ((N + 1)) (nI N) ((-9)) nb hC ap_69t H) (cwV 3 htu hU_X3_71 rfl rfl rfl (by decide +kernel) ⟨Nat.le_of_ble_eq_true rfl, Nat.le_of_ble_eq_true rfl⟩) hP hK hD hC hpp cw_1 rfl rfl hl.1 rfl (lv_room (Nat.le_of_ble_eq_true rfl)) dX3_addNode_143) hS hD hh hpp (fun S_73 H locs hw_74 hP hD hS hC hh hs_75 hpp => ?_)
        try dsimp only at hw_74
        have aw_76 : AW [2, 3, 4, 5] [] S_65 S_73 := hw_74.1
        have aw_76t : AW [0, 1, 2, 3, 4, 5] [] S S_73 := aw_68t.tr (aw_76.mono (by decide) (by decide))
        have ap_77 := hw_74.2
        have ap_77t : TI S_73 (N + 1) := by rw [ap_77]; exact ap_69t
        refine lv_iload hx hb dX3_addNode_146 (lv_at hl 0 rfl) ?_
        refine lv_iconst (v := 3) hx hb dX3_addNode_148 (by decide) ?_
        refine lv_icmp_lt (tgt := 162) hx hb dX3_addNode_149 (by decide) (fun c_78 => ?_) (fun c_78 => ?_)
        · skip
          refine lv_iload hx hb dX3_addNode_162 (lv_at hl 7 rfl) ?_
          exact c_iret (v := nI N) hx hb hr hK hP hD hS hC hh hpp ⟨aw_76t, ⟨rfl, ANP.mk2 hw_59 ⟨z0, z1, z2, z3, ⟨hp3, z4⟩, ⟨hp5, z5⟩⟩ ap_77t ap_69 ap_77 c_61 c_70 c_78⟩⟩ dX3_addNode_164 hlocks
        · skip
          refine lv_aload_n hx hb dX3_addNode_152 rfl (lv_at hl 1 rfl) ?_
          refine lv_iload hx hb dX3_addNode_153 (lv_at hl 7 rfl) ?_
          refine lv_bipush (v := (-9)) hx hb dX3_addNode_155 (by decide) ?_
          refine lv_iload hx hb dX3_addNode_157 (lv_at hl 6 rfl) ?_
          have hC0 := hC
          refine c_cv (c_runV (As := [.int (nI N), .int ((-9)), .int nc]) (rest := []) (q0 := 1) (ci := 3) ⟨hx, hb, hml, hown, htu⟩ (tt_addPart l G S_73 ((N + 1)) (nI N) ((-9)) nc hC ap_77t H) (cwV 3 htu hU_X3_71 rfl rfl rfl (by decide +kernel) ⟨Nat.le_of_ble_eq_true rfl, Nat.le_of_ble_eq_true rfl⟩) hP hK hD hC hpp cw_1 rfl rfl hl.1 rfl (lv_room (Nat.le_of_ble_eq_true rfl)) dX3_addNode_159) hS hD hh hpp (fun S_80 H locs hw_81 hP hD hS hC hh hs_82 hpp => ?_)
          try dsimp only at hw_81
          have aw_83 : AW [2, 3, 4, 5] [] S_73 S_80 := hw_81.1
          have aw_83t : AW [0, 1, 2, 3, 4, 5] [] S S_80 := aw_76t.tr (aw_83.mono (by decide) (by decide))
          have ap_84 := hw_81.2
          have ap_84t : TI S_80 (N + 1) := by rw [ap_84]; exact ap_77t
          refine lv_iload hx hb dX3_addNode_162 (lv_at hl 7 rfl) ?_
          exact c_iret (v := nI N) hx hb hr hK hP hD hS hC hh hpp ⟨aw_83t, ⟨rfl, ANP.mk3 hw_59 ⟨z0, z1, z2, z3, ⟨hp3, z4⟩, ⟨hp5, z5⟩⟩ ap_84t ap_69 ap_77 ap_84 c_61 c_70 c_78⟩⟩ dX3_addNode_164 hlocks
  · intro j ih9 H locs k sl g hI
    obtain ⟨S1, i, ls, hC, hh, hpp, hAW, hp0, hp1, hp2, hp3, hp4, hp5, hp6, hp7, rfl, rfl, hP, hD, hS, hl, rfl⟩ := hI
    have i5 : i ≤ 5 := i5_of hp0
    refine lv_iload hx hb dX3_addNode_78 (lv_at hl 8 rfl) ?_
    refine lv_bipush (v := 6) hx hb dX3_addNode_80 (by decide) ?_
    refine lv_icmp_ge (tgt := 109) hx hb dX3_addNode_82 (by decide) (fun c_85 => absurd c_85 (nge6 i5)) (fun c_85 => ?_)
    refine lv_aload_n hx hb dX3_addNode_85 rfl (lv_at hl 0 rfl) ?_
    refine va_get (D := gD G) (ci := 3) (v := .ref (kH S 4)) (C := RX3) (T := TX3) (N := 6) hx hb htu cu_in3 hown hK hP 1 cw_1 rfl 4 (by decide) (htu _ C_30) (fun _ h9 => h9) (c_hv (hh.2 4 (lt35 (by decide)))) dX3_addNode_86 ?_
    refine lv_bipush (v := (-9)) hx hb dX3_addNode_89 (by decide) ?_
    have hC0 := hC
    refine c_cv (c_runV (As := [.int ((-9))]) (rest := []) (q0 := (2 * 4 + 13)) (ci := 0) ⟨hx, hb, hml, hown, htu⟩ (c_addA l G S1 4 (lt35 (by decide)) hC (kH S 4) (hh.2 4 (lt35 (by decide))) ((-9)) (ad6 hp1 hN i5 lim_4) H) (cwV 1 htu hU_X3_64 rfl rfl rfl (by decide +kernel) ⟨Nat.le_of_ble_eq_true rfl, Nat.le_of_ble_eq_true rfl⟩) hP hK hD hC hpp (c_hd (hh.2 4 (lt35 (by decide))) (cw_row (lt35 (by decide)))) rfl rfl hl.1 rfl (lv_room (Nat.le_of_ble_eq_true rfl)) dX3_addNode_91) hS hD hh hpp (fun S_87 H locs hw_88 hP hD hS hC hh hs_89 hpp => ?_)
    try dsimp only at hw_88
    have aw_90 : AW [4] [] S1 S_87 := (by obtain ⟨_, _, _, h9, -, -⟩ := hw_88; rw [h9]; exact AW.u (by decide))
    have aw_90t : AW [0, 1, 2, 3, 4, 5] [] S S_87 := hAW.tr (aw_90.mono (by decide) (by decide))
    have kk_91 : kK S_87 5 = 6 * N + i := (aw_90.2.1 5 (lt35 (by decide)) (by decide)).2.trans hp2
    obtain ⟨ad_92n, ad_92q, ad_92g, ad_92u, ad_921, ad_922⟩ := hw_88
    have kk_93 : kK S_87 4 = 6 * N + i + 1 := by rw [ad_92u]; exact uR_K.trans (congrArg (· + 1) hp1)
    have gg_94 := ad_F2 ad_92u ad_921 ad_922 hp1
    have gg_94s := six_s hp3 hp4 gg_94.1 gg_94.2
    refine lv_aload_n hx hb dX3_addNode_94 rfl (lv_at hl 0 rfl) ?_
    refine va_get (D := gD G) (ci := 3) (v := .ref (kH S 5)) (C := RX3) (T := TX3) (N := 6) hx hb htu cu_in3 hown hK hP 1 cw_1 rfl 5 (by decide) (htu _ C_31) (fun _ h9 => h9) (c_hv (hh.2 5 (lt35 (by decide)))) dX3_addNode_95 ?_
    refine lv_bipush (v := (-9)) hx hb dX3_addNode_98 (by decide) ?_
    have hC0 := hC
    refine c_cv (c_runV (As := [.int ((-9))]) (rest := []) (q0 := (2 * 5 + 13)) (ci := 0) ⟨hx, hb, hml, hown, htu⟩ (c_addA l G S_87 5 (lt35 (by decide)) hC (kH S 5) (hh.2 5 (lt35 (by decide))) ((-9)) (ad6 kk_91 hN i5 lim_5) H) (cwV 1 htu hU_X3_64 rfl rfl rfl (by decide +kernel) ⟨Nat.le_of_ble_eq_true rfl, Nat.le_of_ble_eq_true rfl⟩) hP hK hD hC hpp (c_hd (hh.2 5 (lt35 (by decide))) (cw_row (lt35 (by decide)))) rfl rfl hl.1 rfl (lv_room (Nat.le_of_ble_eq_true rfl)) dX3_addNode_100) hS hD hh hpp (fun S_96 H locs hw_97 hP hD hS hC hh hs_98 hpp => ?_)
    try dsimp only at hw_97
    have aw_99 : AW [5] [] S_87 S_96 := (by obtain ⟨_, _, _, h9, -, -⟩ := hw_97; rw [h9]; exact AW.u (by decide))
    have aw_99t : AW [0, 1, 2, 3, 4, 5] [] S S_96 := aw_90t.tr (aw_99.mono (by decide) (by decide))
    have kk_100 : kK S_96 4 = 6 * N + i + 1 := (aw_99.2.1 4 (lt35 (by decide)) (by decide)).2.trans kk_93
    obtain ⟨ad_101n, ad_101q, ad_101g, ad_101u, ad_1011, ad_1012⟩ := hw_97
    have kk_102 : kK S_96 5 = 6 * N + i + 1 := by rw [ad_101u]; exact uR_K.trans (congrArg (· + 1) kk_91)
    have gg_103 := ad_F2 ad_101u ad_1011 ad_1012 kk_91
    have gg_103o : kF S_87 5 = kF S1 5 := ((aw_90.2.1 5 (lt35 (by decide)) (by decide)).1.trans rfl)
    rw [gg_103o] at gg_103
    have gg_103s := six_s hp5 hp6 gg_103.1 gg_103.2
    refine lv_iinc (v := nI (i + 1)) (lv' := [(8, .int (nI (i + 1))), (0, .ref (ga G 1)), (1, .int kd), (2, .int vv), (3, .int na), (4, .int nb), (5, .int nc), (6, .int (nI N)), (7, .int 1)]) hx hb dX3_addNode_103 hl (k := 8) rfl (nI_1 i) (by decide) rfl (fun ls hl => ?_)
    refine lv_goto (tgt := 78) hx hb dX3_addNode_106 (by decide) ?_
    have fo_104 : kF S_96 4 = kF S_87 4 := ((aw_99.2.1 4 (lt35 (by decide)) (by decide)).1.trans rfl)
    have fo_104a : AW [4, 5] [] S_44 S_96 := hp7.tr ((aw_90.mono (by decide) (by decide)).tr (aw_99.mono (by decide) (by decide)))
    exact ih9 _ _ _ _ _ ⟨S_96, i + 1, ls, hC, hh, hpp, aw_99t, s6_of hp0, kk_100, kk_102, (by rw [fo_104]; exact gg_94s.1), (by rw [fo_104]; exact gg_94s.2), gg_103s.1, gg_103s.2, fo_104a, rfl, rfl, hP, hD, hS, lv_sub hl [1, 2, 3, 4, 5, 6, 7, 8, 0] rfl, rfl⟩

