set_option maxHeartbeats 4000000 in
set_option maxRecDepth 100000 in
/-- addNode, case A -/
theorem z_addNodeA (l : Launch) (G : cG) (S : cS) (tk : Nat) (N : Nat) (kd : Int32) (vv : Int32) (na : Int32) (nb : Int32) (nc : Int32) (hC : CL S) (hT : TI S N) (hN : N < 120) (hk0 : kd = 0) (Hs : Heap) : Met l yX3_addNode (wC yX3_addNode cX3_addNode 9 (some .int)) (cRm S 3 103) (cPcZ tk G S Hs [.ref (ga G 1), .int kd, .int vv, .int na, .int nb, .int nc]) (cQi G S Hs (fun v u => AW [0, 1, 2, 3, 4, 5] [] S u ∧ (v = nI N ∧ ANP S u N kd vv na nb nc))) (CC - PT S) (12 * (CC - PT S)) (cA G S Hs.size) := by
  refine Met.ofW (cc := cX3_addNode) (maxL := 9) (ret := (some .int)) (by decide) rfl ?_
  intro p e s m args below meth c s₁ B hml hv
  obtain ⟨rfl, hsz, hP, hK, hD0, -, hZ⟩ := hv
  have hx := B.exec
  have hb := B.bytes
  have hr := B.returns
  have htu : ∀ w ∈ CU, w.before _ s = true := fun w h => atoms_spec (ws := (wC yX3_addNode cX3_addNode 9 (some .int))) B.pre w (List.mem_cons_of_mem _ h)
  have hown : s.vm.findClass RX3 = some m.cls := findClass_of_methodNamed B.named
  have hlocks := B.notSynchronized
  subst hsz
  have hD : cD (cA G S s.heap.size) G S := cD_self hD0
  have hl := lv_entry ([.ref (ga G 1), .int kd, .int vv, .int na, .int nb, .int nc]) (n := 9) (Nat.le_of_ble_eq_true rfl)
  rw [lg_entry_eq]
  generalize (lg_sl ([.ref (ga G 1), .int kd, .int vv, .int na, .int nb, .int nc]) ++ List.replicate (9 - (lg_sl ([.ref (ga G 1), .int kd, .int vv, .int na, .int nb, .int nc])).length) Slot.unset).toArray = ls at hl ⊢
  have hl : lv_has ls 9 [(0, .ref (ga G 1)), (1, .int kd), (2, .int vv), (3, .int na), (4, .int nb), (5, .int nc)] := hl
  obtain ⟨H, hHe⟩ : ∃ H : Heap, H = s.heap := ⟨_, rfl⟩
  rw [← hHe] at hP
  have hS : va_S (cA G S s.heap.size) s.heap H [] := by rw [hHe]; exact va_S.rf
  have hh : HS S S := HS.rf
  have hpp : PT S ≤ PT S := Nat.le_refl _
  have hB9 := hC.1
  refine W.heq hHe ?_
  refine c_ent (S := S) ?_
  obtain ⟨hN0, t0, t1, t2, t3, t4, t5⟩ := id hT
  refine lv_aload_n hx hb dX3_addNode_0 rfl (lv_at hl 0 rfl) ?_
  refine va_get (D := gD G) (ci := 3) (v := .ref (kH S 0)) (C := RX3) (T := TX3) (N := 6) hx hb htu cu_in3 hown hK hP 1 cw_1 rfl 0 (by decide) (htu _ C_26) (fun _ h9 => h9) rfl dX3_addNode_1 ?_
  refine va_get (D := gD G) (ci := 0) (v := .int (nI N)) (C := RX0) (T := TX0) (N := 2) hx hb htu cu_in0 hown hK hP (2 * 0 + 13) (c_hd rfl (cw_row (lt35 (by decide)))) rfl 1 (by decide) (htu _ C_208) (fun _ h9 => h9) (m_v (congrArg nI t0)) dX3_addNode_4 ?_
  refine lv_istore (lv' := [(6, .int (nI N)), (0, .ref (ga G 1)), (1, .int kd), (2, .int vv), (3, .int na), (4, .int nb), (5, .int nc)]) hx hb dX3_addNode_7 hl (by decide) rfl (fun ls hl => ?_)
  refine lv_iload_n hx hb dX3_addNode_9 rfl (lv_at hl 2 rfl) ?_
  refine lv_if_eq (tgt := 25) hx hb dX3_addNode_10 (by decide) (fun c_1 => ?_) (fun c_1 => absurd hk0 c_1)
  refine lv_iconst (v := 1) hx hb dX3_addNode_25 (by decide) ?_
  refine lv_goto (tgt := 30) hx hb dX3_addNode_26 (by decide) ?_
  refine lv_istore (lv' := [(7, .int 1), (6, .int (nI N)), (0, .ref (ga G 1)), (1, .int kd), (2, .int vv), (3, .int na), (4, .int nb), (5, .int nc)]) hx hb dX3_addNode_30 hl (by decide) rfl (fun ls hl => ?_)
  refine lv_aload_n hx hb dX3_addNode_32 rfl (lv_at hl 2 rfl) ?_
  refine va_get (D := gD G) (ci := 3) (v := .ref (kH S 0)) (C := RX3) (T := TX3) (N := 6) hx hb htu cu_in3 hown hK hP 1 cw_1 rfl 0 (by decide) (htu _ C_26) (fun _ h9 => h9) rfl dX3_addNode_33 ?_
  refine lv_iload_n hx hb dX3_addNode_36 rfl (lv_at hl 3 rfl) ?_
  have hC0 := hC
  refine c_cv (c_runV (As := [.int kd]) (rest := []) (q0 := (2 * 0 + 13)) (ci := 0) ⟨hx, hb, hml, hown, htu⟩ (c_addA l G S 0 (lt35 (by decide)) hC (kH S 0) rfl kd (ad7 t0 hN lim_0) H) (cwV 1 htu hU_X3_64 rfl rfl rfl (by decide +kernel) ⟨Nat.le_of_ble_eq_true rfl, Nat.le_of_ble_eq_true rfl⟩) hP hK hD hC hpp (c_hd rfl (cw_row (lt35 (by decide)))) rfl rfl hl.1 rfl (lv_room (Nat.le_of_ble_eq_true rfl)) dX3_addNode_37) hS hD hh hpp (fun S_3 H locs hw_4 hP hD hS hC hh hs_5 hpp => ?_)
  try dsimp only at hw_4
  have aw_6 : AW [0] [] S S_3 := (by obtain ⟨_, _, _, h9, -, -⟩ := hw_4; rw [h9]; exact AW.u (by decide))
  have aw_6t : AW [0, 1, 2, 3, 4, 5] [] S S_3 := AW.rf.tr (aw_6.mono (by decide) (by decide))
  have kk_7 : kK S_3 1 = N := (aw_6.2.1 1 (lt35 (by decide)) (by decide)).2.trans t1
  have kk_8 : kK S_3 2 = N := (aw_6.2.1 2 (lt35 (by decide)) (by decide)).2.trans t2
  have kk_9 : kK S_3 3 = N := (aw_6.2.1 3 (lt35 (by decide)) (by decide)).2.trans t3
  have kk_10 : kK S_3 4 = 6 * N := (aw_6.2.1 4 (lt35 (by decide)) (by decide)).2.trans t4
  have kk_11 : kK S_3 5 = 6 * N := (aw_6.2.1 5 (lt35 (by decide)) (by decide)).2.trans t5
  obtain ⟨ad_12n, ad_12q, ad_12g, ad_12u, ad_121, ad_122⟩ := hw_4
  have kk_13 : kK S_3 0 = N + 1 := by rw [ad_12u]; exact uR_K.trans (congrArg (· + 1) t0)
  have gg_14 := ad_F2 ad_12u ad_121 ad_122 t0
  have gg_14o : kF S 0 = kF S 0 := rfl
  rw [gg_14o] at gg_14
  refine lv_aload_n hx hb dX3_addNode_40 rfl (lv_at hl 2 rfl) ?_
  refine va_get (D := gD G) (ci := 3) (v := .ref (kH S 1)) (C := RX3) (T := TX3) (N := 6) hx hb htu cu_in3 hown hK hP 1 cw_1 rfl 1 (by decide) (htu _ C_27) (fun _ h9 => h9) (c_hv (hh.2 1 (lt35 (by decide)))) dX3_addNode_41 ?_
  refine lv_iload hx hb dX3_addNode_44 (lv_at hl 0 rfl) ?_
  refine lv_if_eq (tgt := 53) hx hb dX3_addNode_46 (by decide) (fun c_15 => absurd c_15 (by decide)) (fun c_15 => ?_)
  refine lv_iload_n hx hb dX3_addNode_49 rfl (lv_at hl 4 rfl) ?_
  refine lv_goto (tgt := 55) hx hb dX3_addNode_50 (by decide) ?_
  have hM : t_hasM kd = 1 := by unfold t_hasM; rw [if_pos c_1]
  have hmk : t_mark kd vv = vv := by unfold t_mark; rw [hM, if_neg (by decide)]
  have hC0 := hC
  refine c_cv (c_runV (As := [.int vv]) (rest := []) (q0 := (2 * 1 + 13)) (ci := 0) ⟨hx, hb, hml, hown, htu⟩ (c_addA l G S_3 1 (lt35 (by decide)) hC (kH S 1) (hh.2 1 (lt35 (by decide))) vv (ad7 kk_7 hN lim_1) H) (cwV 1 htu hU_X3_64 rfl rfl rfl (by decide +kernel) ⟨Nat.le_of_ble_eq_true rfl, Nat.le_of_ble_eq_true rfl⟩) hP hK hD hC hpp (c_hd (hh.2 1 (lt35 (by decide))) (cw_row (lt35 (by decide)))) rfl rfl hl.1 rfl (lv_room (Nat.le_of_ble_eq_true rfl)) dX3_addNode_55) hS hD hh hpp (fun S_17 H locs hw_18 hP hD hS hC hh hs_19 hpp => ?_)
  try dsimp only at hw_18
  have aw_20 : AW [1] [] S_3 S_17 := (by obtain ⟨_, _, _, h9, -, -⟩ := hw_18; rw [h9]; exact AW.u (by decide))
  have aw_20t : AW [0, 1, 2, 3, 4, 5] [] S S_17 := aw_6t.tr (aw_20.mono (by decide) (by decide))
  have kk_21 : kK S_17 2 = N := (aw_20.2.1 2 (lt35 (by decide)) (by decide)).2.trans kk_8
  have kk_22 : kK S_17 3 = N := (aw_20.2.1 3 (lt35 (by decide)) (by decide)).2.trans kk_9
  have kk_23 : kK S_17 4 = 6 * N := (aw_20.2.1 4 (lt35 (by decide)) (by decide)).2.trans kk_10
  have kk_24 : kK S_17 5 = 6 * N := (aw_20.2.1 5 (lt35 (by decide)) (by decide)).2.trans kk_11
  have kk_25 : kK S_17 0 = N + 1 := (aw_20.2.1 0 (lt35 (by decide)) (by decide)).2.trans kk_13
  obtain ⟨ad_26n, ad_26q, ad_26g, ad_26u, ad_261, ad_262⟩ := hw_18
  have kk_27 : kK S_17 1 = N + 1 := by rw [ad_26u]; exact uR_K.trans (congrArg (· + 1) kk_7)
  have gg_28 := ad_F2 ad_26u ad_261 ad_262 kk_7
  have gg_28o : kF S_3 1 = kF S 1 := ((aw_6.2.1 1 (lt35 (by decide)) (by decide)).1.trans rfl)
  rw [gg_28o] at gg_28
  rw [← hmk] at gg_28
  refine lv_aload_n hx hb dX3_addNode_58 rfl (lv_at hl 2 rfl) ?_
  refine va_get (D := gD G) (ci := 3) (v := .ref (kH S 2)) (C := RX3) (T := TX3) (N := 6) hx hb htu cu_in3 hown hK hP 1 cw_1 rfl 2 (by decide) (htu _ C_28) (fun _ h9 => h9) (c_hv (hh.2 2 (lt35 (by decide)))) dX3_addNode_59 ?_
  refine lv_bipush (v := (-9)) hx hb dX3_addNode_62 (by decide) ?_
  have hC0 := hC
  refine c_cv (c_runV (As := [.int ((-9))]) (rest := []) (q0 := (2 * 2 + 13)) (ci := 0) ⟨hx, hb, hml, hown, htu⟩ (c_addA l G S_17 2 (lt35 (by decide)) hC (kH S 2) (hh.2 2 (lt35 (by decide))) ((-9)) (ad7 kk_21 hN lim_2) H) (cwV 1 htu hU_X3_64 rfl rfl rfl (by decide +kernel) ⟨Nat.le_of_ble_eq_true rfl, Nat.le_of_ble_eq_true rfl⟩) hP hK hD hC hpp (c_hd (hh.2 2 (lt35 (by decide))) (cw_row (lt35 (by decide)))) rfl rfl hl.1 rfl (lv_room (Nat.le_of_ble_eq_true rfl)) dX3_addNode_64) hS hD hh hpp (fun S_30 H locs hw_31 hP hD hS hC hh hs_32 hpp => ?_)
  try dsimp only at hw_31
  have aw_33 : AW [2] [] S_17 S_30 := (by obtain ⟨_, _, _, h9, -, -⟩ := hw_31; rw [h9]; exact AW.u (by decide))
  have aw_33t : AW [0, 1, 2, 3, 4, 5] [] S S_30 := aw_20t.tr (aw_33.mono (by decide) (by decide))
  have kk_34 : kK S_30 3 = N := (aw_33.2.1 3 (lt35 (by decide)) (by decide)).2.trans kk_22
  have kk_35 : kK S_30 4 = 6 * N := (aw_33.2.1 4 (lt35 (by decide)) (by decide)).2.trans kk_23
  have kk_36 : kK S_30 5 = 6 * N := (aw_33.2.1 5 (lt35 (by decide)) (by decide)).2.trans kk_24
  have kk_37 : kK S_30 0 = N + 1 := (aw_33.2.1 0 (lt35 (by decide)) (by decide)).2.trans kk_25
  have kk_38 : kK S_30 1 = N + 1 := (aw_33.2.1 1 (lt35 (by decide)) (by decide)).2.trans kk_27
  obtain ⟨ad_39n, ad_39q, ad_39g, ad_39u, ad_391, ad_392⟩ := hw_31
  have kk_40 : kK S_30 2 = N + 1 := by rw [ad_39u]; exact uR_K.trans (congrArg (· + 1) kk_21)
  have gg_41 := ad_F2 ad_39u ad_391 ad_392 kk_21
  have gg_41o : kF S_17 2 = kF S 2 := ((aw_20.2.1 2 (lt35 (by decide)) (by decide)).1.trans ((aw_6.2.1 2 (lt35 (by decide)) (by decide)).1.trans rfl))
  rw [gg_41o] at gg_41
  refine lv_aload_n hx hb dX3_addNode_67 rfl (lv_at hl 2 rfl) ?_
  refine va_get (D := gD G) (ci := 3) (v := .ref (kH S 3)) (C := RX3) (T := TX3) (N := 6) hx hb htu cu_in3 hown hK hP 1 cw_1 rfl 3 (by decide) (htu _ C_29) (fun _ h9 => h9) (c_hv (hh.2 3 (lt35 (by decide)))) dX3_addNode_68 ?_
  refine lv_iconst (v := 0) hx hb dX3_addNode_71 (by decide) ?_
  have hC0 := hC
  refine c_cv (c_runV (As := [.int 0]) (rest := []) (q0 := (2 * 3 + 13)) (ci := 0) ⟨hx, hb, hml, hown, htu⟩ (c_addA l G S_30 3 (lt35 (by decide)) hC (kH S 3) (hh.2 3 (lt35 (by decide))) 0 (ad7 kk_34 hN lim_3) H) (cwV 1 htu hU_X3_64 rfl rfl rfl (by decide +kernel) ⟨Nat.le_of_ble_eq_true rfl, Nat.le_of_ble_eq_true rfl⟩) hP hK hD hC hpp (c_hd (hh.2 3 (lt35 (by decide))) (cw_row (lt35 (by decide)))) rfl rfl hl.1 rfl (lv_room (Nat.le_of_ble_eq_true rfl)) dX3_addNode_72) hS hD hh hpp (fun S_43 H locs hw_44 hP hD hS hC hh hs_45 hpp => ?_)
  try dsimp only at hw_44
  have aw_46 : AW [3] [] S_30 S_43 := (by obtain ⟨_, _, _, h9, -, -⟩ := hw_44; rw [h9]; exact AW.u (by decide))
  have aw_46t : AW [0, 1, 2, 3, 4, 5] [] S S_43 := aw_33t.tr (aw_46.mono (by decide) (by decide))
  have kk_47 : kK S_43 4 = 6 * N := (aw_46.2.1 4 (lt35 (by decide)) (by decide)).2.trans kk_35
  have kk_48 : kK S_43 5 = 6 * N := (aw_46.2.1 5 (lt35 (by decide)) (by decide)).2.trans kk_36
  have kk_49 : kK S_43 0 = N + 1 := (aw_46.2.1 0 (lt35 (by decide)) (by decide)).2.trans kk_37
  have kk_50 : kK S_43 1 = N + 1 := (aw_46.2.1 1 (lt35 (by decide)) (by decide)).2.trans kk_38
  have kk_51 : kK S_43 2 = N + 1 := (aw_46.2.1 2 (lt35 (by decide)) (by decide)).2.trans kk_40
  obtain ⟨ad_52n, ad_52q, ad_52g, ad_52u, ad_521, ad_522⟩ := hw_44
  have kk_53 : kK S_43 3 = N + 1 := by rw [ad_52u]; exact uR_K.trans (congrArg (· + 1) kk_34)
  have gg_54 := ad_F2 ad_52u ad_521 ad_522 kk_34
  have gg_54o : kF S_30 3 = kF S 3 := ((aw_33.2.1 3 (lt35 (by decide)) (by decide)).1.trans ((aw_20.2.1 3 (lt35 (by decide)) (by decide)).1.trans ((aw_6.2.1 3 (lt35 (by decide)) (by decide)).1.trans rfl)))
  rw [gg_54o] at gg_54
  refine lv_iconst (v := 0) hx hb dX3_addNode_75 (by decide) ?_
  refine lv_istore (lv' := [(8, .int 0), (7, .int 1), (6, .int (nI N)), (0, .ref (ga G 1)), (1, .int kd), (2, .int vv), (3, .int na), (4, .int nb), (5, .int nc)]) hx hb dX3_addNode_76 hl (by decide) rfl (fun ls hl => ?_)
  have q0o : kF S_43 0 = kF S_3 0 := ((aw_46.2.1 0 (lt35 (by decide)) (by decide)).1.trans ((aw_33.2.1 0 (lt35 (by decide)) (by decide)).1.trans ((aw_20.2.1 0 (lt35 (by decide)) (by decide)).1.trans rfl)))
  have q0 := gg_14
  rw [← q0o] at q0
  have q1o : kF S_43 1 = kF S_17 1 := ((aw_46.2.1 1 (lt35 (by decide)) (by decide)).1.trans ((aw_33.2.1 1 (lt35 (by decide)) (by decide)).1.trans rfl))
  have q1 := gg_28
  rw [← q1o] at q1
  have q2o : kF S_43 2 = kF S_30 2 := ((aw_46.2.1 2 (lt35 (by decide)) (by decide)).1.trans rfl)
  have q2 := gg_41
  rw [← q2o] at q2
  have q3o : kF S_43 3 = kF S_43 3 := rfl
  have q3 := gg_54
  rw [← q3o] at q3
  have q4o : kF S_43 4 = kF S 4 := ((aw_46.2.1 4 (lt35 (by decide)) (by decide)).1.trans ((aw_33.2.1 4 (lt35 (by decide)) (by decide)).1.trans ((aw_20.2.1 4 (lt35 (by decide)) (by decide)).1.trans ((aw_6.2.1 4 (lt35 (by decide)) (by decide)).1.trans rfl))))
  have q5o : kF S_43 5 = kF S 5 := ((aw_46.2.1 5 (lt35 (by decide)) (by decide)).1.trans ((aw_33.2.1 5 (lt35 (by decide)) (by decide)).1.trans ((aw_20.2.1 5 (lt35 (by decide)) (by decide)).1.trans ((aw_6.2.1 5 (lt35 (by decide)) (by decide)).1.trans rfl))))
  have q0k := kk_49
  have q1k := kk_50
  have q2k := kk_51
  have q3k := kk_53
  refine w_loop (fun j H locs k sl g => ∃ (S1 : cS) (i : Nat) (ls : Array Slot), CL S1 ∧ HS S S1 ∧ PT S ≤ PT S1 ∧ AW [0, 1, 2, 3, 4, 5] [] S S1 ∧ i + j = 6 ∧ kK S1 4 = 6 * N + i ∧ kK S1 5 = 6 * N + i ∧ (∀ j, j < 6 * N → kF S1 4 j = kF S 4 j) ∧ (∀ w, w < i → kF S1 4 (6 * N + w) = -9) ∧ (∀ j, j < 6 * N → kF S1 5 j = kF S 5 j) ∧ (∀ w, w < i → kF S1 5 (6 * N + w) = -9) ∧ AW [4, 5] [] S_43 S1 ∧ k = PT S1 - PT S ∧ sl = 12 * (PT S1 - PT S) ∧ cP G S1 H ∧ cD (cA G S s.heap.size) G S1 ∧ va_S (cA G S s.heap.size) s.heap H locs ∧ lv_has ls 9 [(0, .ref (ga G 1)), (1, .int kd), (2, .int vv), (3, .int na), (4, .int nb), (5, .int nc), (6, .int (nI N)), (7, .int 1), (8, .int (nI i))] ∧ g = F0 m 78 ls []) ?_ ?_ 6 _ _ _ _ _ ⟨S_43, 0, ls, hC, hh, hpp, aw_46t, by omega, kk_47, kk_48, (fun j hj => by rw [q4o]), (fun w hw => absurd hw (Nat.not_lt_zero _)), (fun j hj => by rw [q5o]), (fun w hw => absurd hw (Nat.not_lt_zero _)), AW.rf, rfl, rfl, hP, hD, hS, lv_sub hl [3, 4, 5, 6, 7, 8, 2, 1, 0] rfl, rfl⟩
  · intro H locs k sl g hI
    obtain ⟨S1, i, ls, hC, hh, hpp, hAW, hp0, hp1, hp2, hp3, hp4, hp5, hp6, hp7, rfl, rfl, hP, hD, hS, hl, rfl⟩ := hI
    have i6 : i = 6 := by omega
    have z4 : ∀ w, w < 6 → kF S1 4 (6 * N + w) = -9 := fun w hw => hp4 w (by omega)
    have z5 : ∀ w, w < 6 → kF S1 5 (6 * N + w) = -9 := fun w hw => hp6 w (by omega)
    have z0 := q0
    rw [← (hp7.2.1 0 (lt35 (by decide)) (by decide)).1] at z0
    have z1 := q1
    rw [← (hp7.2.1 1 (lt35 (by decide)) (by decide)).1] at z1
    have z2 := q2
    rw [← (hp7.2.1 2 (lt35 (by decide)) (by decide)).1] at z2
    have z3 := q3
    rw [← (hp7.2.1 3 (lt35 (by decide)) (by decide)).1] at z3
    have ti1 : TI S1 (N + 1) := ⟨hN, (hp7.2.1 0 (lt35 (by decide)) (by decide)).2.trans q0k, (hp7.2.1 1 (lt35 (by decide)) (by decide)).2.trans q1k, (hp7.2.1 2 (lt35 (by decide)) (by decide)).2.trans q2k, (hp7.2.1 3 (lt35 (by decide)) (by decide)).2.trans q3k, hp1.trans (by omega), hp2.trans (by omega)⟩
    refine lv_iload hx hb dX3_addNode_78 (lv_at hl 8 rfl) ?_
    refine lv_bipush (v := 6) hx hb dX3_addNode_80 (by decide) ?_
    refine lv_icmp_ge (tgt := 109) hx hb dX3_addNode_82 (by decide) (fun c_55 => ?_) (fun c_55 => absurd (by rw [show i = 6 by omega]; decide) c_55)
    refine lv_iload_n hx hb dX3_addNode_109 rfl (lv_at hl 1 rfl) ?_
    have hC0 := hC
    refine c_ci (c_runSZ (As := [.int kd]) (rest := []) ⟨hx, hb, hml, hown, htu⟩ (z_partsOfKind l G S1 tk kd hC  H) (va_cwS 1 htu hU_X3_68 rfl rfl rfl (by decide +kernel) ⟨Nat.le_of_ble_eq_true rfl, Nat.le_of_ble_eq_true rfl⟩) hP hK hD hC hpp hS hZ rfl hl.1 rfl (lv_room (Nat.le_of_ble_eq_true rfl)) dX3_addNode_110) hS hD hh hpp (fun r_56 S_57 H locs hw_58 hP hD hS hC hh hs_59 hpp => ?_)
    obtain ⟨-, hu9, hw_58⟩ := hw_58
    have hu9 := hu9.symm
    subst hu9
    refine lv_istore (lv' := [(8, .int r_56), (0, .ref (ga G 1)), (1, .int kd), (2, .int vv), (3, .int na), (4, .int nb), (5, .int nc), (6, .int (nI N)), (7, .int 1)]) hx hb dX3_addNode_113 hl (by decide) rfl (fun ls hl => ?_)
    refine lv_iload hx hb dX3_addNode_115 (lv_at hl 0 rfl) ?_
    refine lv_iconst (v := 1) hx hb dX3_addNode_117 (by decide) ?_
    refine lv_icmp_lt (tgt := 130) hx hb dX3_addNode_118 (by decide) (fun c_60 => ?_) (fun c_60 => ?_)
    · skip
      refine lv_iload hx hb dX3_addNode_130 (lv_at hl 0 rfl) ?_
      refine lv_iconst (v := 2) hx hb dX3_addNode_132 (by decide) ?_
      refine lv_icmp_lt (tgt := 146) hx hb dX3_addNode_133 (by decide) (fun c_61 => ?_) (fun c_61 => absurd (Int32.lt_trans c_60 (by decide)) c_61)
      refine lv_iload hx hb dX3_addNode_146 (lv_at hl 0 rfl) ?_
      refine lv_iconst (v := 3) hx hb dX3_addNode_148 (by decide) ?_
      refine lv_icmp_lt (tgt := 162) hx hb dX3_addNode_149 (by decide) (fun c_62 => ?_) (fun c_62 => absurd (Int32.lt_trans c_60 (by decide)) c_62)
      refine lv_iload hx hb dX3_addNode_162 (lv_at hl 7 rfl) ?_
      exact c_iret (v := nI N) hx hb hr hK hP hD hS hC hh hpp ⟨hAW, ⟨rfl, ANP.mk0 hw_58 ⟨z0, z1, z2, z3, ⟨hp3, z4⟩, ⟨hp5, z5⟩⟩ ti1  c_60 c_61 c_62⟩⟩ dX3_addNode_164 hlocks
    · skip
      refine lv_aload_n hx hb dX3_addNode_121 rfl (lv_at hl 1 rfl) ?_
      refine lv_iload hx hb dX3_addNode_122 (lv_at hl 7 rfl) ?_
      refine lv_bipush (v := (-9)) hx hb dX3_addNode_124 (by decide) ?_
      refine lv_iload_n hx hb dX3_addNode_126 rfl (lv_at hl 4 rfl) ?_
      have hC0 := hC
      refine c_cv (c_runV (As := [.int (nI N), .int ((-9)), .int na]) (rest := []) (q0 := 1) (ci := 3) ⟨hx, hb, hml, hown, htu⟩ (tt_addPart l G S1 ((N + 1)) (nI N) ((-9)) na hC ti1 H) (cwV 3 htu hU_X3_71 rfl rfl rfl (by decide +kernel) ⟨Nat.le_of_ble_eq_true rfl, Nat.le_of_ble_eq_true rfl⟩) hP hK hD hC hpp cw_1 rfl rfl hl.1 rfl (lv_room (Nat.le_of_ble_eq_true rfl)) dX3_addNode_127) hS hD hh hpp (fun S_64 H locs hw_65 hP hD hS hC hh hs_66 hpp => ?_)
      try dsimp only at hw_65
      have aw_67 : AW [2, 3, 4, 5] [] S1 S_64 := hw_65.1
      have aw_67t : AW [0, 1, 2, 3, 4, 5] [] S S_64 := hAW.tr (aw_67.mono (by decide) (by decide))
      have ap_68 := hw_65.2
      have ap_68t : TI S_64 (N + 1) := by rw [ap_68]; exact ti1
      refine lv_iload hx hb dX3_addNode_130 (lv_at hl 0 rfl) ?_
      refine lv_iconst (v := 2) hx hb dX3_addNode_132 (by decide) ?_
      refine lv_icmp_lt (tgt := 146) hx hb dX3_addNode_133 (by decide) (fun c_69 => ?_) (fun c_69 => ?_)
      · skip
        refine lv_iload hx hb dX3_addNode_146 (lv_at hl 0 rfl) ?_
        refine lv_iconst (v := 3) hx hb dX3_addNode_148 (by decide) ?_
        refine lv_icmp_lt (tgt := 162) hx hb dX3_addNode_149 (by decide) (fun c_70 => ?_) (fun c_70 => absurd (Int32.lt_trans c_69 (by decide)) c_70)
        refine lv_iload hx hb dX3_addNode_162 (lv_at hl 7 rfl) ?_
        exact c_iret (v := nI N) hx hb hr hK hP hD hS hC hh hpp ⟨aw_67t, ⟨rfl, ANP.mk1 hw_58 ⟨z0, z1, z2, z3, ⟨hp3, z4⟩, ⟨hp5, z5⟩⟩ ap_68t ap_68 c_60 c_69 c_70⟩⟩ dX3_addNode_164 hlocks
      · skip
        refine lv_aload_n hx hb dX3_addNode_136 rfl (lv_at hl 1 rfl) ?_
        refine lv_iload hx hb dX3_addNode_137 (lv_at hl 7 rfl) ?_
        refine lv_bipush (v := (-9)) hx hb dX3_addNode_139 (by decide) ?_
        refine lv_iload hx hb dX3_addNode_141 (lv_at hl 5 rfl) ?_
        have hC0 := hC
        refine c_cv (c_runV (As := [.int (nI N), .int ((-9)), .int nb]) (rest := []) (q0 := 1) (ci := 3) ⟨hx, hb, hml, hown, htu⟩ (tt_addPart l G S_64 ((N + 1)) (nI N) ((-9)) nb hC ap_68t H) (cwV 3 htu hU_X3_71 rfl rfl rfl (by decide +kernel) ⟨Nat.le_of_ble_eq_true rfl, Nat.le_of_ble_eq_true rfl⟩) hP hK hD hC hpp cw_1 rfl rfl hl.1 rfl (lv_room (Nat.le_of_ble_eq_true rfl)) dX3_addNode_143) hS hD hh hpp (fun S_72 H locs hw_73 hP hD hS hC hh hs_74 hpp => ?_)
        try dsimp only at hw_73
        have aw_75 : AW [2, 3, 4, 5] [] S_64 S_72 := hw_73.1
        have aw_75t : AW [0, 1, 2, 3, 4, 5] [] S S_72 := aw_67t.tr (aw_75.mono (by decide) (by decide))
        have ap_76 := hw_73.2
        have ap_76t : TI S_72 (N + 1) := by rw [ap_76]; exact ap_68t
        refine lv_iload hx hb dX3_addNode_146 (lv_at hl 0 rfl) ?_
        refine lv_iconst (v := 3) hx hb dX3_addNode_148 (by decide) ?_
        refine lv_icmp_lt (tgt := 162) hx hb dX3_addNode_149 (by decide) (fun c_77 => ?_) (fun c_77 => ?_)
        · skip
          refine lv_iload hx hb dX3_addNode_162 (lv_at hl 7 rfl) ?_
          exact c_iret (v := nI N) hx hb hr hK hP hD hS hC hh hpp ⟨aw_75t, ⟨rfl, ANP.mk2 hw_58 ⟨z0, z1, z2, z3, ⟨hp3, z4⟩, ⟨hp5, z5⟩⟩ ap_76t ap_68 ap_76 c_60 c_69 c_77⟩⟩ dX3_addNode_164 hlocks
        · skip
          refine lv_aload_n hx hb dX3_addNode_152 rfl (lv_at hl 1 rfl) ?_
          refine lv_iload hx hb dX3_addNode_153 (lv_at hl 7 rfl) ?_
          refine lv_bipush (v := (-9)) hx hb dX3_addNode_155 (by decide) ?_
          refine lv_iload hx hb dX3_addNode_157 (lv_at hl 6 rfl) ?_
          have hC0 := hC
          refine c_cv (c_runV (As := [.int (nI N), .int ((-9)), .int nc]) (rest := []) (q0 := 1) (ci := 3) ⟨hx, hb, hml, hown, htu⟩ (tt_addPart l G S_72 ((N + 1)) (nI N) ((-9)) nc hC ap_76t H) (cwV 3 htu hU_X3_71 rfl rfl rfl (by decide +kernel) ⟨Nat.le_of_ble_eq_true rfl, Nat.le_of_ble_eq_true rfl⟩) hP hK hD hC hpp cw_1 rfl rfl hl.1 rfl (lv_room (Nat.le_of_ble_eq_true rfl)) dX3_addNode_159) hS hD hh hpp (fun S_79 H locs hw_80 hP hD hS hC hh hs_81 hpp => ?_)
          try dsimp only at hw_80
          have aw_82 : AW [2, 3, 4, 5] [] S_72 S_79 := hw_80.1
          have aw_82t : AW [0, 1, 2, 3, 4, 5] [] S S_79 := aw_75t.tr (aw_82.mono (by decide) (by decide))
          have ap_83 := hw_80.2
          have ap_83t : TI S_79 (N + 1) := by rw [ap_83]; exact ap_76t
          refine lv_iload hx hb dX3_addNode_162 (lv_at hl 7 rfl) ?_
          exact c_iret (v := nI N) hx hb hr hK hP hD hS hC hh hpp ⟨aw_82t, ⟨rfl, ANP.mk3 hw_58 ⟨z0, z1, z2, z3, ⟨hp3, z4⟩, ⟨hp5, z5⟩⟩ ap_83t ap_68 ap_76 ap_83 c_60 c_69 c_77⟩⟩ dX3_addNode_164 hlocks
  · intro j ih9 H locs k sl g hI
    obtain ⟨S1, i, ls, hC, hh, hpp, hAW, hp0, hp1, hp2, hp3, hp4, hp5, hp6, hp7, rfl, rfl, hP, hD, hS, hl, rfl⟩ := hI
    have i5 : i ≤ 5 := i5_of hp0
    refine lv_iload hx hb dX3_addNode_78 (lv_at hl 8 rfl) ?_
    refine lv_bipush (v := 6) hx hb dX3_addNode_80 (by decide) ?_
    refine lv_icmp_ge (tgt := 109) hx hb dX3_addNode_82 (by decide) (fun c_84 => absurd c_84 (nge6 i5)) (fun c_84 => ?_)
    refine lv_aload_n hx hb dX3_addNode_85 rfl (lv_at hl 0 rfl) ?_
    refine va_get (D := gD G) (ci := 3) (v := .ref (kH S 4)) (C := RX3) (T := TX3) (N := 6) hx hb htu cu_in3 hown hK hP 1 cw_1 rfl 4 (by decide) (htu _ C_30) (fun _ h9 => h9) (c_hv (hh.2 4 (lt35 (by decide)))) dX3_addNode_86 ?_
    refine lv_bipush (v := (-9)) hx hb dX3_addNode_89 (by decide) ?_
    have hC0 := hC
    refine c_cv (c_runV (As := [.int ((-9))]) (rest := []) (q0 := (2 * 4 + 13)) (ci := 0) ⟨hx, hb, hml, hown, htu⟩ (c_addA l G S1 4 (lt35 (by decide)) hC (kH S 4) (hh.2 4 (lt35 (by decide))) ((-9)) (ad6 hp1 hN i5 lim_4) H) (cwV 1 htu hU_X3_64 rfl rfl rfl (by decide +kernel) ⟨Nat.le_of_ble_eq_true rfl, Nat.le_of_ble_eq_true rfl⟩) hP hK hD hC hpp (c_hd (hh.2 4 (lt35 (by decide))) (cw_row (lt35 (by decide)))) rfl rfl hl.1 rfl (lv_room (Nat.le_of_ble_eq_true rfl)) dX3_addNode_91) hS hD hh hpp (fun S_86 H locs hw_87 hP hD hS hC hh hs_88 hpp => ?_)
    try dsimp only at hw_87
    have aw_89 : AW [4] [] S1 S_86 := (by obtain ⟨_, _, _, h9, -, -⟩ := hw_87; rw [h9]; exact AW.u (by decide))
    have aw_89t : AW [0, 1, 2, 3, 4, 5] [] S S_86 := hAW.tr (aw_89.mono (by decide) (by decide))
    have kk_90 : kK S_86 5 = 6 * N + i := (aw_89.2.1 5 (lt35 (by decide)) (by decide)).2.trans hp2
    obtain ⟨ad_91n, ad_91q, ad_91g, ad_91u, ad_911, ad_912⟩ := hw_87
    have kk_92 : kK S_86 4 = 6 * N + i + 1 := by rw [ad_91u]; exact uR_K.trans (congrArg (· + 1) hp1)
    have gg_93 := ad_F2 ad_91u ad_911 ad_912 hp1
    have gg_93s := six_s hp3 hp4 gg_93.1 gg_93.2
    refine lv_aload_n hx hb dX3_addNode_94 rfl (lv_at hl 0 rfl) ?_
    refine va_get (D := gD G) (ci := 3) (v := .ref (kH S 5)) (C := RX3) (T := TX3) (N := 6) hx hb htu cu_in3 hown hK hP 1 cw_1 rfl 5 (by decide) (htu _ C_31) (fun _ h9 => h9) (c_hv (hh.2 5 (lt35 (by decide)))) dX3_addNode_95 ?_
    refine lv_bipush (v := (-9)) hx hb dX3_addNode_98 (by decide) ?_
    have hC0 := hC
    refine c_cv (c_runV (As := [.int ((-9))]) (rest := []) (q0 := (2 * 5 + 13)) (ci := 0) ⟨hx, hb, hml, hown, htu⟩ (c_addA l G S_86 5 (lt35 (by decide)) hC (kH S 5) (hh.2 5 (lt35 (by decide))) ((-9)) (ad6 kk_90 hN i5 lim_5) H) (cwV 1 htu hU_X3_64 rfl rfl rfl (by decide +kernel) ⟨Nat.le_of_ble_eq_true rfl, Nat.le_of_ble_eq_true rfl⟩) hP hK hD hC hpp (c_hd (hh.2 5 (lt35 (by decide))) (cw_row (lt35 (by decide)))) rfl rfl hl.1 rfl (lv_room (Nat.le_of_ble_eq_true rfl)) dX3_addNode_100) hS hD hh hpp (fun S_95 H locs hw_96 hP hD hS hC hh hs_97 hpp => ?_)
    try dsimp only at hw_96
    have aw_98 : AW [5] [] S_86 S_95 := (by obtain ⟨_, _, _, h9, -, -⟩ := hw_96; rw [h9]; exact AW.u (by decide))
    have aw_98t : AW [0, 1, 2, 3, 4, 5] [] S S_95 := aw_89t.tr (aw_98.mono (by decide) (by decide))
    have kk_99 : kK S_95 4 = 6 * N + i + 1 := (aw_98.2.1 4 (lt35 (by decide)) (by decide)).2.trans kk_92
    obtain ⟨ad_100n, ad_100q, ad_100g, ad_100u, ad_1001, ad_1002⟩ := hw_96
    have kk_101 : kK S_95 5 = 6 * N + i + 1 := by rw [ad_100u]; exact uR_K.trans (congrArg (· + 1) kk_90)
    have gg_102 := ad_F2 ad_100u ad_1001 ad_1002 kk_90
    have gg_102o : kF S_86 5 = kF S1 5 := ((aw_89.2.1 5 (lt35 (by decide)) (by decide)).1.trans rfl)
    rw [gg_102o] at gg_102
    have gg_102s := six_s hp5 hp6 gg_102.1 gg_102.2
    refine lv_iinc (v := nI (i + 1)) (lv' := [(8, .int (nI (i + 1))), (0, .ref (ga G 1)), (1, .int kd), (2, .int vv), (3, .int na), (4, .int nb), (5, .int nc), (6, .int (nI N)), (7, .int 1)]) hx hb dX3_addNode_103 hl (k := 8) rfl (nI_1 i) (by decide) rfl (fun ls hl => ?_)
    refine lv_goto (tgt := 78) hx hb dX3_addNode_106 (by decide) ?_
    have fo_103 : kF S_95 4 = kF S_86 4 := ((aw_98.2.1 4 (lt35 (by decide)) (by decide)).1.trans rfl)
    have fo_103a : AW [4, 5] [] S_43 S_95 := hp7.tr ((aw_89.mono (by decide) (by decide)).tr (aw_98.mono (by decide) (by decide)))
    exact ih9 _ _ _ _ _ ⟨S_95, i + 1, ls, hC, hh, hpp, aw_98t, s6_of hp0, kk_99, kk_101, (by rw [fo_103]; exact gg_93s.1), (by rw [fo_103]; exact gg_93s.2), gg_102s.1, gg_102s.2, fo_103a, rfl, rfl, hP, hD, hS, lv_sub hl [1, 2, 3, 4, 5, 6, 7, 8, 0] rfl, rfl⟩

