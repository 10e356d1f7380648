set_option maxHeartbeats 4000000 in
set_option maxRecDepth 100000 in
/-- begin -/
theorem xl_begin_7 (l : Launch) (G : cG) (S : cS) (T : Nat) (V : Nat) (VP : Nat) (X : Nat) (Y : Nat) (Z : Nat) (z : aS) (st9 : List (Nat × Nat × Nat)) (L9 : List Int32) (wy : Nat) (t9 : Nat) (hC : CL S) (hY : TY S T V VP X Y Z) (hVP : VP ≤ V) (hTS : kT S = ga G 7) (hz : KT S z) (hTK : TKx z S 401 st9 L9) (hsp : L9.length < 400 ∨ st9.length < L9.length) (ht : t9 < nT z) (hwy : wy < 2) (Hs : Heap) : Met l yX2_begin (wC yX2_begin cX2_begin 4 none) (cRm S 3 103) (cPc G S Hs [.ref (ga G 3), .int (nI t9), .int (nI wy)]) (cQv G S Hs (fun u => AW [19, 20, 21, 22] [201] S u ∧ (∃ st2 L2, TKx z u 401 st2 L2 ∧ rsm z st2 L2 = rsm z st9 (tl z 401 (wsk z st9) t9 wy L9) ∧ L9.length ≤ L2.length ∧ (st2 = st9 ∨ st2 = (t9, wy, 0) :: st9) ∧ (L9.length < 400 → L9.length < L2.length)))) (CC - PT S) (12 * (CC - PT S)) (cA G S Hs.size) := by
  refine Met.ofW (cc := cX2_begin) (maxL := 4) (ret := none) (by decide) rfl ?_
  intro p e s m args below meth c s₁ B hml hv
  obtain ⟨rfl, hsz, hP, hK, hD0, -⟩ := hv
  have hx := B.exec
  have hb := B.bytes
  have hr := B.returns
  have htu : ∀ w ∈ CU, w.before _ s = true := fun w h => atoms_spec (ws := (wC yX2_begin cX2_begin 4 none)) B.pre w (List.mem_cons_of_mem _ h)
  have hown : s.vm.findClass RX2 = some m.cls := findClass_of_methodNamed B.named
  have hlocks := B.notSynchronized
  subst hsz
  have hD : cD (cA G S s.heap.size) G S := cD_self hD0
  have hl := lv_entry ([.ref (ga G 3), .int (nI t9), .int (nI wy)]) (n := 4) (Nat.le_of_ble_eq_true rfl)
  rw [lg_entry_eq]
  generalize (lg_sl ([.ref (ga G 3), .int (nI t9), .int (nI wy)]) ++ List.replicate (4 - (lg_sl ([.ref (ga G 3), .int (nI t9), .int (nI wy)])).length) Slot.unset).toArray = ls at hl ⊢
  have hl : lv_has ls 4 [(0, .ref (ga G 3)), (1, .int (nI t9)), (2, .int (nI wy))] := hl
  obtain ⟨H, hHe⟩ : ∃ H : Heap, H = s.heap := ⟨_, rfl⟩
  rw [← hHe] at hP
  have hS : va_S (cA G S s.heap.size) s.heap H [] := by rw [hHe]; exact va_S.rf
  have hh : HS S S := HS.rf
  have hpp : PT S ≤ PT S := Nat.le_refl _
  have hB9 := hC.1
  refine W.heq hHe ?_
  refine c_ent (S := S) ?_
  obtain ⟨⟨h19, h20, h21⟩, hsg, hcap, hos, hst, hsv, hso⟩ := id hTK
  obtain ⟨tT9, tV9, tB9, tX9⟩ := hY.2.1
  have hn6 := hz.1.2.2.2.2.2.2.2.1
  have hv6 := hz.1.2.2.2.2.2.2.2.2.1
  have hk4 := hz.ks4 ht
  refine lv_aload_n hx hb dX2_begin_0 rfl (lv_at hl 0 rfl) ?_
  refine va_get (D := gD G) (ci := 2) (v := .ref (ga G 2)) (C := RX2) (T := TX2) (N := 6) hx hb htu cu_in2 hown hK hP 3 cw_3 rfl 0 (by decide) (htu _ C_128) (fun _ h9 => h9) rfl dX2_begin_1 ?_
  refine lv_iload_n hx hb dX2_begin_4 rfl (lv_at hl 1 rfl) ?_
  have hC0 := hC
  refine c_ci (c_runV (As := [.int (nI t9)]) (rest := []) (q0 := 2) (ci := 4) ⟨hx, hb, hml, hown, htu⟩ (y_sortOf l G S (nI t9) hC  H) (cwV 1 htu hU_X2_65 rfl rfl rfl (by decide +kernel) ⟨Nat.le_of_ble_eq_true rfl, Nat.le_of_ble_eq_true rfl⟩) hP hK hD hC hpp cw_2 rfl rfl hl.1 rfl (lv_room (Nat.le_of_ble_eq_true rfl)) dX2_begin_5) hS hD hh hpp (fun r_1 S_2 H locs hw_3 hP hD hS hC hh hs_4 hpq => ?_)
  clear hpp
  have hpp := hpq
  clear hpq
  obtain ⟨-, hu9, hw_3⟩ := hw_3
  have hu9 := hu9.symm
  subst hu9
  obtain rfl : r_1 = nI (ks z t9) := hw_3.trans (hz.rs ht)
  rcases Decidable.em (nI (ks z t9) = 0) with c_5 | c_5
  · skip
    refine lv_tableIn (tgt := 40) hx hb dX2_begin_8 (by rw [c_5]; decide) (by rw [c_5]; decide) (by rw [c_5]; rfl) (by decide) ?_
    obtain ⟨hs0, ht0⟩ := hz.kw ht c_5
    refine lv_aload_n hx hb dX2_begin_40 rfl (lv_at hl 0 rfl) ?_
    refine va_get (D := gD G) (ci := 2) (v := .ref (ga G 7)) (C := RX2) (T := TX2) (N := 6) hx hb htu cu_in2 hown hK hP 3 cw_3 rfl 5 (by decide) (htu _ C_127) (fun _ h9 => h9) (c_hv hTS) dX2_begin_41 ?_
    refine lv_bipush (v := 119) hx hb dX2_begin_44 (by decide) ?_
    have hC0 := hC
    refine c_cv (c_runV (As := [.int 119]) (rest := []) (q0 := 7) (ci := 1) ⟨hx, hb, hml, hown, htu⟩ (xs_put_7 l G S L9 119 hC hTK.2.1 hTK.2.2.1 H) (cwV 1 htu hU_X2_69 rfl rfl rfl (by decide +kernel) ⟨Nat.le_of_ble_eq_true rfl, Nat.le_of_ble_eq_true rfl⟩) hP hK hD hC hpp cw_7 rfl rfl hl.1 rfl (lv_room (Nat.le_of_ble_eq_true rfl)) dX2_begin_46) hS hD hh hpp (fun S_7 H locs hw_8 hP hD hS hC hh hs_9 hpq => ?_)
    clear hpp
    have hpp := hpq
    clear hpq
    try dsimp only at hw_8
    have aw_10 : AW [] [201] S S_7 := hw_8.1
    have aw_10t : AW [19, 20, 21, 22] [201] S S_7 := AW.rf.tr (aw_10.mono (by decide) (by decide))
    have kk_11 : kK S_7 19 = st9.length := (aw_10.2.1 19 (lt35 (by decide)) (by decide)).2.trans h19
    have kk_12 : kK S_7 20 = st9.length := (aw_10.2.1 20 (lt35 (by decide)) (by decide)).2.trans h20
    have kk_13 : kK S_7 21 = st9.length := (aw_10.2.1 21 (lt35 (by decide)) (by decide)).2.trans h21
    have ty_14 := TY.aw hY aw_10 (by decide)
    have sg_15h : SG S_7 401 (lput 400 L9 (b8 119)) := hw_8.2
    have sg_15q : (lput 400 L9 (b8 119)).length ≤ 400 ∧ (L9).length ≤ (lput 400 L9 (b8 119)).length := lput_len hTK.2.2.1
    have sg_15e : L9.length ≤ (lput 400 L9 (b8 119)).length := Nat.le_trans (Nat.le_refl _) sg_15q.2
    have sg_15l : L9.length < 400 → L9.length < (lput 400 L9 (b8 119)).length := fun h => lp_s h
    have sg_15t := TKw.aw hTK aw_10 (by decide) sg_15h sg_15q.2 sg_15q.1
    exact c_vret hx hb hr hK hP hD hS hC hh hpp ⟨aw_10t, ⟨st9, (lput 400 L9 (b8 119)), sg_15t, (by rw [bg0 hs0, if_pos ht0]), sg_15e, Or.inl rfl, sg_15l⟩⟩ dX2_begin_49 hlocks
  rcases Decidable.em (nI (ks z t9) = 1) with c_16 | c_16
  · skip
    refine lv_tableIn (tgt := 50) hx hb dX2_begin_8 (by rw [c_16]; decide) (by rw [c_16]; decide) (by rw [c_16]; rfl) (by decide) ?_
    obtain ⟨hs0, ht0⟩ := hz.kt ht c_16
    refine lv_aload_n hx hb dX2_begin_50 rfl (lv_at hl 0 rfl) ?_
    refine va_get (D := gD G) (ci := 2) (v := .ref (ga G 7)) (C := RX2) (T := TX2) (N := 6) hx hb htu cu_in2 hown hK hP 3 cw_3 rfl 5 (by decide) (htu _ C_127) (fun _ h9 => h9) (c_hv hTS) dX2_begin_51 ?_
    refine lv_bipush (v := 116) hx hb dX2_begin_54 (by decide) ?_
    have hC0 := hC
    refine c_cv (c_runV (As := [.int 116]) (rest := []) (q0 := 7) (ci := 1) ⟨hx, hb, hml, hown, htu⟩ (xs_put_7 l G S L9 116 hC hTK.2.1 hTK.2.2.1 H) (cwV 1 htu hU_X2_69 rfl rfl rfl (by decide +kernel) ⟨Nat.le_of_ble_eq_true rfl, Nat.le_of_ble_eq_true rfl⟩) hP hK hD hC hpp cw_7 rfl rfl hl.1 rfl (lv_room (Nat.le_of_ble_eq_true rfl)) dX2_begin_56) hS hD hh hpp (fun S_18 H locs hw_19 hP hD hS hC hh hs_20 hpq => ?_)
    clear hpp
    have hpp := hpq
    clear hpq
    try dsimp only at hw_19
    have aw_21 : AW [] [201] S S_18 := hw_19.1
    have aw_21t : AW [19, 20, 21, 22] [201] S S_18 := AW.rf.tr (aw_21.mono (by decide) (by decide))
    have kk_22 : kK S_18 19 = st9.length := (aw_21.2.1 19 (lt35 (by decide)) (by decide)).2.trans h19
    have kk_23 : kK S_18 20 = st9.length := (aw_21.2.1 20 (lt35 (by decide)) (by decide)).2.trans h20
    have kk_24 : kK S_18 21 = st9.length := (aw_21.2.1 21 (lt35 (by decide)) (by decide)).2.trans h21
    have ty_25 := TY.aw hY aw_21 (by decide)
    have sg_26h : SG S_18 401 (lput 400 L9 (b8 116)) := hw_19.2
    have sg_26q : (lput 400 L9 (b8 116)).length ≤ 400 ∧ (L9).length ≤ (lput 400 L9 (b8 116)).length := lput_len hTK.2.2.1
    have sg_26e : L9.length ≤ (lput 400 L9 (b8 116)).length := Nat.le_trans (Nat.le_refl _) sg_26q.2
    have sg_26l : L9.length < 400 → L9.length < (lput 400 L9 (b8 116)).length := fun h => lp_s h
    have sg_26t := TKw.aw hTK aw_21 (by decide) sg_26h sg_26q.2 sg_26q.1
    exact c_vret hx hb hr hK hP hD hS hC hh hpp ⟨aw_21t, ⟨st9, (lput 400 L9 (b8 116)), sg_26t, (by rw [bg0 hs0, if_neg ht0]), sg_26e, Or.inl rfl, sg_26l⟩⟩ dX2_begin_59 hlocks
  rcases Decidable.em (nI (ks z t9) = 2) with c_27 | c_27
  · skip
    refine lv_tableIn (tgt := 60) hx hb dX2_begin_8 (by rw [c_27]; decide) (by rw [c_27]; decide) (by rw [c_27]; rfl) (by decide) ?_
    have hs1 : srt z t9 = 1 := hz.k1 ht (hz.ek ht (by decide) rfl c_27)
    refine lv_aload_n hx hb dX2_begin_60 rfl (lv_at hl 0 rfl) ?_
    refine va_get (D := gD G) (ci := 2) (v := .ref (ga G 7)) (C := RX2) (T := TX2) (N := 6) hx hb htu cu_in2 hown hK hP 3 cw_3 rfl 5 (by decide) (htu _ C_127) (fun _ h9 => h9) (c_hv hTS) dX2_begin_61 ?_
    refine lv_bipush (v := 62) hx hb dX2_begin_64 (by decide) ?_
    have hC0 := hC
    refine c_cv (c_runV (As := [.int 62]) (rest := []) (q0 := 7) (ci := 1) ⟨hx, hb, hml, hown, htu⟩ (xs_put_7 l G S L9 62 hC hTK.2.1 hTK.2.2.1 H) (cwV 1 htu hU_X2_69 rfl rfl rfl (by decide +kernel) ⟨Nat.le_of_ble_eq_true rfl, Nat.le_of_ble_eq_true rfl⟩) hP hK hD hC hpp cw_7 rfl rfl hl.1 rfl (lv_room (Nat.le_of_ble_eq_true rfl)) dX2_begin_66) hS hD hh hpp (fun S_29 H locs hw_30 hP hD hS hC hh hs_31 hpq => ?_)
    clear hpp
    have hpp := hpq
    clear hpq
    try dsimp only at hw_30
    have aw_32 : AW [] [201] S S_29 := hw_30.1
    have aw_32t : AW [19, 20, 21, 22] [201] S S_29 := AW.rf.tr (aw_32.mono (by decide) (by decide))
    have kk_33 : kK S_29 19 = st9.length := (aw_32.2.1 19 (lt35 (by decide)) (by decide)).2.trans h19
    have kk_34 : kK S_29 20 = st9.length := (aw_32.2.1 20 (lt35 (by decide)) (by decide)).2.trans h20
    have kk_35 : kK S_29 21 = st9.length := (aw_32.2.1 21 (lt35 (by decide)) (by decide)).2.trans h21
    have ty_36 := TY.aw hY aw_32 (by decide)
    have sg_37h : SG S_29 401 (lput 400 L9 (b8 62)) := hw_30.2
    have sg_37q : (lput 400 L9 (b8 62)).length ≤ 400 ∧ (L9).length ≤ (lput 400 L9 (b8 62)).length := lput_len hTK.2.2.1
    have sg_37e : L9.length ≤ (lput 400 L9 (b8 62)).length := Nat.le_trans (Nat.le_refl _) sg_37q.2
    have sg_37l : L9.length < 400 → L9.length < (lput 400 L9 (b8 62)).length := fun h => lp_s h
    have sg_37t := TKw.aw hTK aw_32 (by decide) sg_37h sg_37q.2 sg_37q.1
    refine lv_goto (tgt := 162) hx hb dX2_begin_69 (by decide) ?_
    have ho4 : st9.length < 400 := tb_1 hos hsp hcap
    have hto : st9.length + 1 ≤ (lput 400 L9 (b8 62)).length := tb_2 hos hsp sg_37e sg_37l
    refine lv_aload_n hx hb dX2_begin_162 rfl (lv_at hl 0 rfl) ?_
    refine va_get (D := gD G) (ci := 2) (v := .ref (kH S 19)) (C := RX2) (T := TX2) (N := 6) hx hb htu cu_in2 hown hK hP 3 cw_3 rfl 1 (by decide) (htu _ C_122) (fun _ h9 => h9) (c_hv (hh.2 19 (lt35 (by decide)))) dX2_begin_163 ?_
    refine lv_iload_n hx hb dX2_begin_166 rfl (lv_at hl 1 rfl) ?_
    have hC0 := hC
    refine c_cv (c_runV (As := [.int (nI t9)]) (rest := []) (q0 := (2 * 19 + 13)) (ci := 0) ⟨hx, hb, hml, hown, htu⟩ (c_addA l G S_29 19 (lt35 (by decide)) hC (kH S 19) (hh.2 19 (lt35 (by decide))) (nI t9) (tb_3 kk_33 ho4 lim_19) H) (cwV 1 htu hU_X2_89 rfl rfl rfl (by decide +kernel) ⟨Nat.le_of_ble_eq_true rfl, Nat.le_of_ble_eq_true rfl⟩) hP hK hD hC hpp (c_hd (hh.2 19 (lt35 (by decide))) (cw_row (lt35 (by decide)))) rfl rfl hl.1 rfl (lv_room (Nat.le_of_ble_eq_true rfl)) dX2_begin_167) hS hD hh hpp (fun S_39 H locs hw_40 hP hD hS hC hh hs_41 hpq => ?_)
    clear hpp
    have hpp := hpq
    clear hpq
    try dsimp only at hw_40
    have aw_42 : AW [19] [] S_29 S_39 := (by obtain ⟨_, _, _, h9, -, -⟩ := hw_40; rw [h9]; exact AW.u (by decide))
    have aw_42t : AW [19, 20, 21, 22] [201] S S_39 := aw_32t.tr (aw_42.mono (by decide) (by decide))
    have kk_43 : kK S_39 20 = st9.length := (aw_42.2.1 20 (lt35 (by decide)) (by decide)).2.trans kk_34
    have kk_44 : kK S_39 21 = st9.length := (aw_42.2.1 21 (lt35 (by decide)) (by decide)).2.trans kk_35
    have ii_45 : S_39.1 201 = nI ((lput 400 L9 (b8 62)).length) := (aw_42.1 201 (by decide)).trans sg_37h.1
    have ty_46 := TY.aw ty_36 aw_42 (by decide)
    obtain ⟨ad_47n, ad_47q, ad_47g, ad_47u, ad_471, ad_472⟩ := hw_40
    have kk_48 : kK S_39 19 = st9.length + 1 := by rw [ad_47u]; exact uR_K.trans (congrArg (· + 1) kk_33)
    refine lv_aload_n hx hb dX2_begin_170 rfl (lv_at hl 0 rfl) ?_
    refine va_get (D := gD G) (ci := 2) (v := .ref (kH S 20)) (C := RX2) (T := TX2) (N := 6) hx hb htu cu_in2 hown hK hP 3 cw_3 rfl 2 (by decide) (htu _ C_123) (fun _ h9 => h9) (c_hv (hh.2 20 (lt35 (by decide)))) dX2_begin_171 ?_
    refine lv_iload_n hx hb dX2_begin_174 rfl (lv_at hl 2 rfl) ?_
    have hC0 := hC
    refine c_cv (c_runV (As := [.int (nI wy)]) (rest := []) (q0 := (2 * 20 + 13)) (ci := 0) ⟨hx, hb, hml, hown, htu⟩ (c_addA l G S_39 20 (lt35 (by decide)) hC (kH S 20) (hh.2 20 (lt35 (by decide))) (nI wy) (tb_3 kk_43 ho4 lim_20) H) (cwV 1 htu hU_X2_89 rfl rfl rfl (by decide +kernel) ⟨Nat.le_of_ble_eq_true rfl, Nat.le_of_ble_eq_true rfl⟩) hP hK hD hC hpp (c_hd (hh.2 20 (lt35 (by decide))) (cw_row (lt35 (by decide)))) rfl rfl hl.1 rfl (lv_room (Nat.le_of_ble_eq_true rfl)) dX2_begin_175) hS hD hh hpp (fun S_50 H locs hw_51 hP hD hS hC hh hs_52 hpq => ?_)
    clear hpp
    have hpp := hpq
    clear hpq
    try dsimp only at hw_51
    have aw_53 : AW [20] [] S_39 S_50 := (by obtain ⟨_, _, _, h9, -, -⟩ := hw_51; rw [h9]; exact AW.u (by decide))
    have aw_53t : AW [19, 20, 21, 22] [201] S S_50 := aw_42t.tr (aw_53.mono (by decide) (by decide))
    have kk_54 : kK S_50 21 = st9.length := (aw_53.2.1 21 (lt35 (by decide)) (by decide)).2.trans kk_44
    have kk_55 : kK S_50 19 = st9.length + 1 := (aw_53.2.1 19 (lt35 (by decide)) (by decide)).2.trans kk_48
    have ii_56 : S_50.1 201 = nI ((lput 400 L9 (b8 62)).length) := (aw_53.1 201 (by decide)).trans ii_45
    have ty_57 := TY.aw ty_46 aw_53 (by decide)
    obtain ⟨ad_58n, ad_58q, ad_58g, ad_58u, ad_581, ad_582⟩ := hw_51
    have kk_59 : kK S_50 20 = st9.length + 1 := by rw [ad_58u]; exact uR_K.trans (congrArg (· + 1) kk_43)
    refine lv_aload_n hx hb dX2_begin_178 rfl (lv_at hl 0 rfl) ?_
    refine va_get (D := gD G) (ci := 2) (v := .ref (kH S 21)) (C := RX2) (T := TX2) (N := 6) hx hb htu cu_in2 hown hK hP 3 cw_3 rfl 3 (by decide) (htu _ C_124) (fun _ h9 => h9) (c_hv (hh.2 21 (lt35 (by decide)))) dX2_begin_179 ?_
    refine lv_iconst (v := 0) hx hb dX2_begin_182 (by decide) ?_
    have hC0 := hC
    refine c_cv (c_runV (As := [.int 0]) (rest := []) (q0 := (2 * 21 + 13)) (ci := 0) ⟨hx, hb, hml, hown, htu⟩ (c_addA l G S_50 21 (lt35 (by decide)) hC (kH S 21) (hh.2 21 (lt35 (by decide))) 0 (tb_3 kk_54 ho4 lim_21) H) (cwV 1 htu hU_X2_89 rfl rfl rfl (by decide +kernel) ⟨Nat.le_of_ble_eq_true rfl, Nat.le_of_ble_eq_true rfl⟩) hP hK hD hC hpp (c_hd (hh.2 21 (lt35 (by decide))) (cw_row (lt35 (by decide)))) rfl rfl hl.1 rfl (lv_room (Nat.le_of_ble_eq_true rfl)) dX2_begin_183) hS hD hh hpp (fun S_61 H locs hw_62 hP hD hS hC hh hs_63 hpq => ?_)
    clear hpp
    have hpp := hpq
    clear hpq
    try dsimp only at hw_62
    have aw_64 : AW [21] [] S_50 S_61 := (by obtain ⟨_, _, _, h9, -, -⟩ := hw_62; rw [h9]; exact AW.u (by decide))
    have aw_64t : AW [19, 20, 21, 22] [201] S S_61 := aw_53t.tr (aw_64.mono (by decide) (by decide))
    have kk_65 : kK S_61 19 = st9.length + 1 := (aw_64.2.1 19 (lt35 (by decide)) (by decide)).2.trans kk_55
    have kk_66 : kK S_61 20 = st9.length + 1 := (aw_64.2.1 20 (lt35 (by decide)) (by decide)).2.trans kk_59
    have ii_67 : S_61.1 201 = nI ((lput 400 L9 (b8 62)).length) := (aw_64.1 201 (by decide)).trans ii_56
    have ty_68 := TY.aw ty_57 aw_64 (by decide)
    obtain ⟨ad_69n, ad_69q, ad_69g, ad_69u, ad_691, ad_692⟩ := hw_62
    have kk_70 : kK S_61 21 = st9.length + 1 := by rw [ad_69u]; exact uR_K.trans (congrArg (· + 1) kk_54)
    have fin9 := TKw.push sg_37t (wst_f (by omega)).symm ht hwy (by omega) (fun h => by omega) hto (by decide) (by decide) ad_47u ad_471 ad_472 ad_58u ad_581 ad_582 ad_69u ad_691 ad_692
    exact c_vret hx hb hr hK hP hD hS hC hh hpp ⟨aw_64t, ⟨(t9, wy, 0) :: st9, (lput 400 L9 (b8 62)), fin9, (bg1 hs1).symm, sg_37e, Or.inr rfl, sg_37l⟩⟩ dX2_begin_186 hlocks
  rcases Decidable.em (nI (ks z t9) = 3) with c_71 | c_71
  · skip
    refine lv_tableIn (tgt := 72) hx hb dX2_begin_8 (by rw [c_71]; decide) (by rw [c_71]; decide) (by rw [c_71]; rfl) (by decide) ?_
    have hs2 : srt z t9 = 2 := hz.k2 ht (hz.ek ht (by decide) rfl c_71)
    refine lv_aload_n hx hb dX2_begin_72 rfl (lv_at hl 0 rfl) ?_
    refine va_get (D := gD G) (ci := 2) (v := .ref (ga G 7)) (C := RX2) (T := TX2) (N := 6) hx hb htu cu_in2 hown hK hP 3 cw_3 rfl 5 (by decide) (htu _ C_127) (fun _ h9 => h9) (c_hv hTS) dX2_begin_73 ?_
    refine lv_bipush (v := 123) hx hb dX2_begin_76 (by decide) ?_
    have hC0 := hC
    refine c_cv (c_runV (As := [.int 123]) (rest := []) (q0 := 7) (ci := 1) ⟨hx, hb, hml, hown, htu⟩ (xs_put_7 l G S L9 123 hC hTK.2.1 hTK.2.2.1 H) (cwV 1 htu hU_X2_69 rfl rfl rfl (by decide +kernel) ⟨Nat.le_of_ble_eq_true rfl, Nat.le_of_ble_eq_true rfl⟩) hP hK hD hC hpp cw_7 rfl rfl hl.1 rfl (lv_room (Nat.le_of_ble_eq_true rfl)) dX2_begin_78) hS hD hh hpp (fun S_73 H locs hw_74 hP hD hS hC hh hs_75 hpq => ?_)
    clear hpp
    have hpp := hpq
    clear hpq
    try dsimp only at hw_74
    have aw_76 : AW [] [201] S S_73 := hw_74.1
    have aw_76t : AW [19, 20, 21, 22] [201] S S_73 := AW.rf.tr (aw_76.mono (by decide) (by decide))
    have kk_77 : kK S_73 19 = st9.length := (aw_76.2.1 19 (lt35 (by decide)) (by decide)).2.trans h19
    have kk_78 : kK S_73 20 = st9.length := (aw_76.2.1 20 (lt35 (by decide)) (by decide)).2.trans h20
    have kk_79 : kK S_73 21 = st9.length := (aw_76.2.1 21 (lt35 (by decide)) (by decide)).2.trans h21
    have ty_80 := TY.aw hY aw_76 (by decide)
    have sg_81h : SG S_73 401 (lput 400 L9 (b8 123)) := hw_74.2
    have sg_81q : (lput 400 L9 (b8 123)).length ≤ 400 ∧ (L9).length ≤ (lput 400 L9 (b8 123)).length := lput_len hTK.2.2.1
    have sg_81e : L9.length ≤ (lput 400 L9 (b8 123)).length := Nat.le_trans (Nat.le_refl _) sg_81q.2
    have sg_81l : L9.length < 400 → L9.length < (lput 400 L9 (b8 123)).length := fun h => lp_s h
    have sg_81t := TKw.aw hTK aw_76 (by decide) sg_81h sg_81q.2 sg_81q.1
    refine lv_goto (tgt := 162) hx hb dX2_begin_81 (by decide) ?_
    have ho4 : st9.length < 400 := tb_1 hos hsp hcap
    have hto : st9.length + 1 ≤ (lput 400 L9 (b8 123)).length := tb_2 hos hsp sg_81e sg_81l
    refine lv_aload_n hx hb dX2_begin_162 rfl (lv_at hl 0 rfl) ?_
    refine va_get (D := gD G) (ci := 2) (v := .ref (kH S 19)) (C := RX2) (T := TX2) (N := 6) hx hb htu cu_in2 hown hK hP 3 cw_3 rfl 1 (by decide) (htu _ C_122) (fun _ h9 => h9) (c_hv (hh.2 19 (lt35 (by decide)))) dX2_begin_163 ?_
    refine lv_iload_n hx hb dX2_begin_166 rfl (lv_at hl 1 rfl) ?_
    have hC0 := hC
    refine c_cv (c_runV (As := [.int (nI t9)]) (rest := []) (q0 := (2 * 19 + 13)) (ci := 0) ⟨hx, hb, hml, hown, htu⟩ (c_addA l G S_73 19 (lt35 (by decide)) hC (kH S 19) (hh.2 19 (lt35 (by decide))) (nI t9) (tb_3 kk_77 ho4 lim_19) H) (cwV 1 htu hU_X2_89 rfl rfl rfl (by decide +kernel) ⟨Nat.le_of_ble_eq_true rfl, Nat.le_of_ble_eq_true rfl⟩) hP hK hD hC hpp (c_hd (hh.2 19 (lt35 (by decide))) (cw_row (lt35 (by decide)))) rfl rfl hl.1 rfl (lv_room (Nat.le_of_ble_eq_true rfl)) dX2_begin_167) hS hD hh hpp (fun S_83 H locs hw_84 hP hD hS hC hh hs_85 hpq => ?_)
    clear hpp
    have hpp := hpq
    clear hpq
    try dsimp only at hw_84
    have aw_86 : AW [19] [] S_73 S_83 := (by obtain ⟨_, _, _, h9, -, -⟩ := hw_84; rw [h9]; exact AW.u (by decide))
    have aw_86t : AW [19, 20, 21, 22] [201] S S_83 := aw_76t.tr (aw_86.mono (by decide) (by decide))
    have kk_87 : kK S_83 20 = st9.length := (aw_86.2.1 20 (lt35 (by decide)) (by decide)).2.trans kk_78
    have kk_88 : kK S_83 21 = st9.length := (aw_86.2.1 21 (lt35 (by decide)) (by decide)).2.trans kk_79
    have ii_89 : S_83.1 201 = nI ((lput 400 L9 (b8 123)).length) := (aw_86.1 201 (by decide)).trans sg_81h.1
    have ty_90 := TY.aw ty_80 aw_86 (by decide)
    obtain ⟨ad_91n, ad_91q, ad_91g, ad_91u, ad_911, ad_912⟩ := hw_84
    have kk_92 : kK S_83 19 = st9.length + 1 := by rw [ad_91u]; exact uR_K.trans (congrArg (· + 1) kk_77)
    refine lv_aload_n hx hb dX2_begin_170 rfl (lv_at hl 0 rfl) ?_
    refine va_get (D := gD G) (ci := 2) (v := .ref (kH S 20)) (C := RX2) (T := TX2) (N := 6) hx hb htu cu_in2 hown hK hP 3 cw_3 rfl 2 (by decide) (htu _ C_123) (fun _ h9 => h9) (c_hv (hh.2 20 (lt35 (by decide)))) dX2_begin_171 ?_
    refine lv_iload_n hx hb dX2_begin_174 rfl (lv_at hl 2 rfl) ?_
    have hC0 := hC
    refine c_cv (c_runV (As := [.int (nI wy)]) (rest := []) (q0 := (2 * 20 + 13)) (ci := 0) ⟨hx, hb, hml, hown, htu⟩ (c_addA l G S_83 20 (lt35 (by decide)) hC (kH S 20) (hh.2 20 (lt35 (by decide))) (nI wy) (tb_3 kk_87 ho4 lim_20) H) (cwV 1 htu hU_X2_89 rfl rfl rfl (by decide +kernel) ⟨Nat.le_of_ble_eq_true rfl, Nat.le_of_ble_eq_true rfl⟩) hP hK hD hC hpp (c_hd (hh.2 20 (lt35 (by decide))) (cw_row (lt35 (by decide)))) rfl rfl hl.1 rfl (lv_room (Nat.le_of_ble_eq_true rfl)) dX2_begin_175) hS hD hh hpp (fun S_94 H locs hw_95 hP hD hS hC hh hs_96 hpq => ?_)
    clear hpp
    have hpp := hpq
    clear hpq
    try dsimp only at hw_95
    have aw_97 : AW [20] [] S_83 S_94 := (by obtain ⟨_, _, _, h9, -, -⟩ := hw_95; rw [h9]; exact AW.u (by decide))
    have aw_97t : AW [19, 20, 21, 22] [201] S S_94 := aw_86t.tr (aw_97.mono (by decide) (by decide))
    have kk_98 : kK S_94 21 = st9.length := (aw_97.2.1 21 (lt35 (by decide)) (by decide)).2.trans kk_88
    have kk_99 : kK S_94 19 = st9.length + 1 := (aw_97.2.1 19 (lt35 (by decide)) (by decide)).2.trans kk_92
    have ii_100 : S_94.1 201 = nI ((lput 400 L9 (b8 123)).length) := (aw_97.1 201 (by decide)).trans ii_89
    have ty_101 := TY.aw ty_90 aw_97 (by decide)
    obtain ⟨ad_102n, ad_102q, ad_102g, ad_102u, ad_1021, ad_1022⟩ := hw_95
    have kk_103 : kK S_94 20 = st9.length + 1 := by rw [ad_102u]; exact uR_K.trans (congrArg (· + 1) kk_87)
    refine lv_aload_n hx hb dX2_begin_178 rfl (lv_at hl 0 rfl) ?_
    refine va_get (D := gD G) (ci := 2) (v := .ref (kH S 21)) (C := RX2) (T := TX2) (N := 6) hx hb htu cu_in2 hown hK hP 3 cw_3 rfl 3 (by decide) (htu _ C_124) (fun _ h9 => h9) (c_hv (hh.2 21 (lt35 (by decide)))) dX2_begin_179 ?_
    refine lv_iconst (v := 0) hx hb dX2_begin_182 (by decide) ?_
    have hC0 := hC
    refine c_cv (c_runV (As := [.int 0]) (rest := []) (q0 := (2 * 21 + 13)) (ci := 0) ⟨hx, hb, hml, hown, htu⟩ (c_addA l G S_94 21 (lt35 (by decide)) hC (kH S 21) (hh.2 21 (lt35 (by decide))) 0 (tb_3 kk_98 ho4 lim_21) H) (cwV 1 htu hU_X2_89 rfl rfl rfl (by decide +kernel) ⟨Nat.le_of_ble_eq_true rfl, Nat.le_of_ble_eq_true rfl⟩) hP hK hD hC hpp (c_hd (hh.2 21 (lt35 (by decide))) (cw_row (lt35 (by decide)))) rfl rfl hl.1 rfl (lv_room (Nat.le_of_ble_eq_true rfl)) dX2_begin_183) hS hD hh hpp (fun S_105 H locs hw_106 hP hD hS hC hh hs_107 hpq => ?_)
    clear hpp
    have hpp := hpq
    clear hpq
    try dsimp only at hw_106
    have aw_108 : AW [21] [] S_94 S_105 := (by obtain ⟨_, _, _, h9, -, -⟩ := hw_106; rw [h9]; exact AW.u (by decide))
    have aw_108t : AW [19, 20, 21, 22] [201] S S_105 := aw_97t.tr (aw_108.mono (by decide) (by decide))
    have kk_109 : kK S_105 19 = st9.length + 1 := (aw_108.2.1 19 (lt35 (by decide)) (by decide)).2.trans kk_99
    have kk_110 : kK S_105 20 = st9.length + 1 := (aw_108.2.1 20 (lt35 (by decide)) (by decide)).2.trans kk_103
    have ii_111 : S_105.1 201 = nI ((lput 400 L9 (b8 123)).length) := (aw_108.1 201 (by decide)).trans ii_100
    have ty_112 := TY.aw ty_101 aw_108 (by decide)
    obtain ⟨ad_113n, ad_113q, ad_113g, ad_113u, ad_1131, ad_1132⟩ := hw_106
    have kk_114 : kK S_105 21 = st9.length + 1 := by rw [ad_113u]; exact uR_K.trans (congrArg (· + 1) kk_98)
    have fin9 := TKw.push sg_81t (wst_f (by omega)).symm ht hwy (by omega) (fun h => by omega) hto (by decide) (by decide) ad_91u ad_911 ad_912 ad_102u ad_1021 ad_1022 ad_113u ad_1131 ad_1132
    exact c_vret hx hb hr hK hP hD hS hC hh hpp ⟨aw_108t, ⟨(t9, wy, 0) :: st9, (lput 400 L9 (b8 123)), fin9, (bg2 hs2).symm, sg_81e, Or.inr rfl, sg_81l⟩⟩ dX2_begin_186 hlocks
  have hout : (nI (ks z t9)).toInt < 0 ∨ 3 < (nI (ks z t9)).toInt := tb_out (nI (ks z t9)) 0 3 (fun z h1 h2 e => by
    rcases (show z = 0 ∨ z = 1 ∨ z = 2 ∨ z = 3 by omega) with rfl | rfl | rfl | rfl
    · exact c_5 (Int32.toInt_inj.mp (e.trans (by decide)))
    · exact c_16 (Int32.toInt_inj.mp (e.trans (by decide)))
    · exact c_27 (Int32.toInt_inj.mp (e.trans (by decide)))
    · exact c_71 (Int32.toInt_inj.mp (e.trans (by decide))))
  refine lv_tableOut (tgt := 84) hx hb dX2_begin_8 hout (by decide) ?_
  have hs3 : srt z t9 = 3 := hz.kv ht c_5 c_16 c_27 c_71
  obtain ⟨v1_, v2_, v3_⟩ := hz.f3 ht hs3
  have hlen := hz.rlen hC ht hs3 hwy
  refine lv_iconst (v := 2) hx hb dX2_begin_84 (by decide) ?_
  refine lv_aload_n hx hb dX2_begin_85 rfl (lv_at hl 0 rfl) ?_
  refine va_get (D := gD G) (ci := 2) (v := .ref (ga G 2)) (C := RX2) (T := TX2) (N := 6) hx hb htu cu_in2 hown hK hP 3 cw_3 rfl 0 (by decide) (htu _ C_128) (fun _ h9 => h9) rfl dX2_begin_86 ?_
  refine lv_iload_n hx hb dX2_begin_89 rfl (lv_at hl 1 rfl) ?_
  have hC0 := hC
  refine c_ci (c_runV (As := [.int (nI t9)]) (rest := [.int 2]) (q0 := 2) (ci := 4) ⟨hx, hb, hml, hown, htu⟩ (x_numberOf l G S (nI t9) hC  H) (cwV 1 htu hU_X2_73 rfl rfl rfl (by decide +kernel) ⟨Nat.le_of_ble_eq_true rfl, Nat.le_of_ble_eq_true rfl⟩) hP hK hD hC hpp cw_2 rfl rfl hl.1 rfl (lv_room (Nat.le_of_ble_eq_true rfl)) dX2_begin_90) hS hD hh hpp (fun r_115 S_116 H locs hw_117 hP hD hS hC hh hs_118 hpq => ?_)
  clear hpp
  have hpp := hpq
  clear hpq
  obtain ⟨-, hu9, hw_117⟩ := hw_117
  have hu9 := hu9.symm
  subst hu9
  obtain rfl : r_115 = nI (one z t9) := (hw_117 ((hz.is ht (k := 4) (by decide) (by decide)).mpr (by omega))).trans v1_
  refine lv_imul hx hb dX2_begin_93 ?_
  refine m_top (y := nI (2 * (one z t9))) (pk_mul 2 (one z t9)) ?_
  refine lv_iload_n hx hb dX2_begin_94 rfl (lv_at hl 2 rfl) ?_
  refine lv_iadd hx hb dX2_begin_95 ?_
  refine m_top (y := nI (2 * (one z t9) + wy)) (nI_add (2 * (one z t9)) wy) ?_
  refine lv_istore_n (lv' := [(3, .int (nI (2 * (one z t9) + wy))), (0, .ref (ga G 3)), (1, .int (nI t9)), (2, .int (nI wy))]) hx hb dX2_begin_96 rfl hl (by decide) rfl (fun ls hl => ?_)
  refine lv_aload_n hx hb dX2_begin_97 rfl (lv_at hl 1 rfl) ?_
  refine va_get (D := gD G) (ci := 2) (v := .ref (ga G 2)) (C := RX2) (T := TX2) (N := 6) hx hb htu cu_in2 hown hK hP 3 cw_3 rfl 0 (by decide) (htu _ C_128) (fun _ h9 => h9) rfl dX2_begin_98 ?_
  refine lv_iload_n hx hb dX2_begin_101 rfl (lv_at hl 2 rfl) ?_
  refine lv_iload_n hx hb dX2_begin_102 rfl (lv_at hl 3 rfl) ?_
  have hC0 := hC
  refine c_cr (c_runV (As := [.int (nI t9), .int (nI wy)]) (rest := []) (q0 := 2) (ci := 4) ⟨hx, hb, hml, hown, htu⟩ (y_boundsOf l G S T V VP X Y Z (nI t9) wy hC hY ((by omega)) hwy H) (cwV 2 htu hU_X2_76 rfl rfl rfl (by decide +kernel) ⟨Nat.le_of_ble_eq_true rfl, Nat.le_of_ble_eq_true rfl⟩) hP hK hD hC hpp cw_2 rfl rfl hl.1 rfl (lv_room (Nat.le_of_ble_eq_true rfl)) dX2_begin_103) hS hD hh hpp (fun r_119 S_120 H locs hw_121 hP hD hS hC hh hs_122 hpq => ?_)
  clear hpp
  have hpp := hpq
  clear hpq
  obtain ⟨-, hu9, hw_121⟩ := hw_121
  have hu9 := hu9.symm
  subst hu9
  obtain ⟨br_123r, br_123e, br_1231⟩ := hw_121
  have br_123b := hY.2.1.2.2.1
  have br_123l : br_123r < 35 + kB S := bnd_lt br_1231 br_123b hwy
  have br_123h : kH S br_123r = r_119 := br_123e.symm
  have br_123q : br_123r = 35 + (2 * one z t9 + wy) := hz.bof ht hs3 br_1231 (by omega) (by omega)
  have br_123k : kK S br_123r = (row z wy t9).length := by rw [br_123q]; exact (hz.bn ht hs3 hwy).1
  refine va_get (D := gD G) (ci := 0) (v := .int (nI ((row z wy t9).length))) (C := RX0) (T := TX0) (N := 2) hx hb htu cu_in0 hown hK hP (2 * br_123r + 13) (c_hd br_123h (cw_row br_123l)) rfl 1 (by decide) (htu _ C_450) (fun _ h9 => h9) (m_v (congrArg nI br_123k)) dX2_begin_106 ?_
  refine lv_if_eq (tgt := 124) hx hb dX2_begin_109 (by decide) (fun c_124 => ?_) (fun c_124 => ?_)
  · skip
    have nc_124 : (row z wy t9).length = 0 := (nI_eq (a := (row z wy t9).length) (b := 0) (by omega) (by omega)).mp c_124
    refine lv_aload_n hx hb dX2_begin_124 rfl (lv_at hl 1 rfl) ?_
    refine lv_iload_n hx hb dX2_begin_125 rfl (lv_at hl 2 rfl) ?_
    have hC0 := hC
    refine c_cv (c_runV (As := [.int (nI t9)]) (rest := []) (q0 := 3) (ci := 2) ⟨hx, hb, hml, hown, htu⟩ (xl_putNumber_7 l G S L9 (one z t9) (nI t9) hC hTS hTK.2.1 hTK.2.2.1 (((hz.is ht (k := 4) (by decide) (by decide)).mpr (by omega))) ((hz.f3 ht hs3).1) H) (cwV 1 htu hU_X2_83 rfl rfl rfl (by decide +kernel) ⟨Nat.le_of_ble_eq_true rfl, Nat.le_of_ble_eq_true rfl⟩) hP hK hD hC hpp cw_3 rfl rfl hl.1 rfl (lv_room (Nat.le_of_ble_eq_true rfl)) dX2_begin_126) hS hD hh hpp (fun S_126 H locs hw_127 hP hD hS hC hh hs_128 hpq => ?_)
    clear hpp
    have hpp := hpq
    clear hpq
    try dsimp only at hw_127
    have aw_129 : AW [] [201] S S_126 := hw_127.1
    have aw_129t : AW [19, 20, 21, 22] [201] S S_126 := AW.rf.tr (aw_129.mono (by decide) (by decide))
    have kk_130 : kK S_126 19 = st9.length := (aw_129.2.1 19 (lt35 (by decide)) (by decide)).2.trans h19
    have kk_131 : kK S_126 20 = st9.length := (aw_129.2.1 20 (lt35 (by decide)) (by decide)).2.trans h20
    have kk_132 : kK S_126 21 = st9.length := (aw_129.2.1 21 (lt35 (by decide)) (by decide)).2.trans h21
    have ha_133r : br_123r < 35 + kB S_126 := by have := hs_128.1; have := br_123l; omega
    have ha_133 : kH S_126 br_123r = r_119 := (hs_128.2 br_123r br_123l).trans br_123h
    have ty_134 := TY.aw hY aw_129 (by decide)
    have sg_135h : SG S_126 401 (tln (one z t9) L9) := hw_127.2
    have sg_135q : (tln (one z t9) L9).length ≤ 400 ∧ (L9).length ≤ (tln (one z t9) L9).length := tln_len hTK.2.2.1
    have sg_135e : L9.length ≤ (tln (one z t9) L9).length := Nat.le_trans (Nat.le_refl _) sg_135q.2
    have sg_135l : L9.length < 400 → L9.length < (tln (one z t9) L9).length := fun h => tln_s h
    have sg_135t := TKw.aw hTK aw_129 (by decide) sg_135h sg_135q.2 sg_135q.1
    exact c_vret hx hb hr hK hP hD hS hC hh hpp ⟨aw_129t, ⟨st9, (tln (one z t9) L9), sg_135t, (bg3a hs3 (Or.inl nc_124)).symm, sg_135e, Or.inl rfl, sg_135l⟩⟩ dX2_begin_129 hlocks
  · skip
    have nc_124 : ¬ (row z wy t9).length = 0 := fun h9 => c_124 ((nI_eq (a := (row z wy t9).length) (b := 0) (by omega) (by omega)).mpr h9)
    refine lv_aload_n hx hb dX2_begin_112 rfl (lv_at hl 1 rfl) ?_
    refine va_get (D := gD G) (ci := 2) (v := .ref (kH S 22)) (C := RX2) (T := TX2) (N := 6) hx hb htu cu_in2 hown hK hP 3 cw_3 rfl 4 (by decide) (htu _ C_125) (fun _ h9 => h9) rfl dX2_begin_113 ?_
    refine lv_iload_n hx hb dX2_begin_116 rfl (lv_at hl 0 rfl) ?_
    have hC0 := hC
    refine c_ci (c_runV (As := [.int (nI (2 * (one z t9) + wy))]) (rest := []) (q0 := (2 * 22 + 13)) (ci := 0) ⟨hx, hb, hml, hown, htu⟩ (c_getA l G S 22 (lt35 (by decide)) hC (kH S 22) rfl (nI (2 * (one z t9) + wy)) H) (cwV 1 htu hU_X2_80 rfl rfl rfl (by decide +kernel) ⟨Nat.le_of_ble_eq_true rfl, Nat.le_of_ble_eq_true rfl⟩) hP hK hD hC hpp (c_hd rfl (cw_row (lt35 (by decide)))) rfl rfl hl.1 rfl (lv_room (Nat.le_of_ble_eq_true rfl)) dX2_begin_117) hS hD hh hpp (fun r_136 S_137 H locs hw_138 hP hD hS hC hh hs_139 hpq => ?_)
    clear hpp
    have hpp := hpq
    clear hpq
    obtain ⟨hu9, hw_138⟩ := hw_138
    have hu9 := hu9.symm
    subst hu9
    have hio := hso.rd (a := 2 * one z t9 + wy) (by omega)
    refine lv_iconst (v := 1) hx hb dX2_begin_120 (by decide) ?_
    refine lv_icmp_ne (tgt := 130) hx hb dX2_begin_121 (by decide) (fun c_140 => ?_) (fun c_140 => ?_)
    · skip
      have hw9 : wsk z st9 (2 * one z t9 + wy) = false := Bool.eq_false_iff.mpr (fun z9 => c_140 (hw_138.trans (hio.mpr z9)))
      refine lv_aload_n hx hb dX2_begin_130 rfl (lv_at hl 1 rfl) ?_
      refine va_get (D := gD G) (ci := 2) (v := .ref (kH S 22)) (C := RX2) (T := TX2) (N := 6) hx hb htu cu_in2 hown hK hP 3 cw_3 rfl 4 (by decide) (htu _ C_125) (fun _ h9 => h9) rfl dX2_begin_131 ?_
      refine lv_iload_n hx hb dX2_begin_134 rfl (lv_at hl 0 rfl) ?_
      refine lv_iconst (v := 1) hx hb dX2_begin_135 (by decide) ?_
      have hC0 := hC
      refine c_cv (c_runV (As := [.int (nI (2 * (one z t9) + wy)), .int 1]) (rest := []) (q0 := (2 * 22 + 13)) (ci := 0) ⟨hx, hb, hml, hown, htu⟩ (c_setA l G S 22 (lt35 (by decide)) hC (kH S 22) rfl (nI (2 * (one z t9) + wy)) 1 H) (cwV 2 htu hU_X2_86 rfl rfl rfl (by decide +kernel) ⟨Nat.le_of_ble_eq_true rfl, Nat.le_of_ble_eq_true rfl⟩) hP hK hD hC hpp (c_hd rfl (cw_row (lt35 (by decide)))) rfl rfl hl.1 rfl (lv_room (Nat.le_of_ble_eq_true rfl)) dX2_begin_136) hS hD hh hpp (fun S_142 H locs hw_143 hP hD hS hC hh hs_144 hpq => ?_)
      clear hpp
      have hpp := hpq
      clear hpq
      try dsimp only at hw_143
      have aw_145 : AW [22] [] S S_142 := (by rw [hw_143]; exact AW.u (by decide))
      have aw_145t : AW [19, 20, 21, 22] [201] S S_142 := AW.rf.tr (aw_145.mono (by decide) (by decide))
      have kk_146 : kK S_142 19 = st9.length := (aw_145.2.1 19 (lt35 (by decide)) (by decide)).2.trans h19
      have kk_147 : kK S_142 20 = st9.length := (aw_145.2.1 20 (lt35 (by decide)) (by decide)).2.trans h20
      have kk_148 : kK S_142 21 = st9.length := (aw_145.2.1 21 (lt35 (by decide)) (by decide)).2.trans h21
      have ii_149 : S_142.1 201 = nI (L9.length) := (aw_145.1 201 (by decide)).trans hsg.1
      have ha_150r : br_123r < 35 + kB S_142 := by have := hs_144.1; have := br_123l; omega
      have ha_150 : kH S_142 br_123r = r_119 := (hs_144.2 br_123r br_123l).trans br_123h
      have ty_151 := TY.aw hY aw_145 (by decide)
      have on_152e : kF S_142 22 = upd (kF S 22) (2 * one z t9 + wy) 1 := by rw [hw_143, uR_F]; exact rset_at (by rw [hso.1]; omega) (by rw [hso.1]; decide)
      have on_152k : kK S_142 22 = kK S 22 := by rw [hw_143]; exact uR_K
      have on_152t := TKw.on hTK aw_145 on_152e on_152k (by decide) (by decide)
      refine lv_aload_n hx hb dX2_begin_139 rfl (lv_at hl 1 rfl) ?_
      refine va_get (D := gD G) (ci := 2) (v := .ref (ga G 7)) (C := RX2) (T := TX2) (N := 6) hx hb htu cu_in2 hown hK hP 3 cw_3 rfl 5 (by decide) (htu _ C_127) (fun _ h9 => h9) (c_hv ((aw_145.2.2.1 (by decide)).trans hTS)) dX2_begin_140 ?_
      refine lv_iload_n hx hb dX2_begin_143 rfl (lv_at hl 3 rfl) ?_
      refine lv_if_ne (tgt := 152) hx hb dX2_begin_144 (by decide) (fun c_153 => ?_) (fun c_153 => ?_)
      · skip
        have nc_153 : ¬ wy = 0 := fun h9 => c_153 ((nI_eq (a := wy) (b := 0) (by omega) (by omega)).mpr h9)
        refine lv_bipush (v := 38) hx hb dX2_begin_152 (by decide) ?_
        have hC0 := hC
        refine c_cv (c_runV (As := [.int 38]) (rest := []) (q0 := 7) (ci := 1) ⟨hx, hb, hml, hown, htu⟩ (xs_put_7 l G S_142 L9 38 hC on_152t.2.1 on_152t.2.2.1 H) (cwV 1 htu hU_X2_69 rfl rfl rfl (by decide +kernel) ⟨Nat.le_of_ble_eq_true rfl, Nat.le_of_ble_eq_true rfl⟩) hP hK hD hC hpp cw_7 rfl rfl hl.1 rfl (lv_room (Nat.le_of_ble_eq_true rfl)) dX2_begin_154) hS hD hh hpp (fun S_155 H locs hw_156 hP hD hS hC hh hs_157 hpq => ?_)
        clear hpp
        have hpp := hpq
        clear hpq
        try dsimp only at hw_156
        have aw_158 : AW [] [201] S_142 S_155 := hw_156.1
        have aw_158t : AW [19, 20, 21, 22] [201] S S_155 := aw_145t.tr (aw_158.mono (by decide) (by decide))
        have kk_159 : kK S_155 19 = st9.length := (aw_158.2.1 19 (lt35 (by decide)) (by decide)).2.trans kk_146
        have kk_160 : kK S_155 20 = st9.length := (aw_158.2.1 20 (lt35 (by decide)) (by decide)).2.trans kk_147
        have kk_161 : kK S_155 21 = st9.length := (aw_158.2.1 21 (lt35 (by decide)) (by decide)).2.trans kk_148
        have ha_162r : br_123r < 35 + kB S_155 := by have := hs_157.1; have := ha_150r; omega
        have ha_162 : kH S_155 br_123r = r_119 := (hs_157.2 br_123r ha_150r).trans ha_150
        have ty_163 := TY.aw ty_151 aw_158 (by decide)
        have sg_164h : SG S_155 401 (lput 400 L9 (b8 38)) := hw_156.2
        have sg_164q : (lput 400 L9 (b8 38)).length ≤ 400 ∧ (L9).length ≤ (lput 400 L9 (b8 38)).length := lput_len on_152t.2.2.1
        have sg_164e : L9.length ≤ (lput 400 L9 (b8 38)).length := Nat.le_trans (Nat.le_refl _) sg_164q.2
        have sg_164l : L9.length < 400 → L9.length < (lput 400 L9 (b8 38)).length := fun h => lp_s h
        have sg_164t := TKw.aw on_152t aw_158 (by decide) sg_164h sg_164q.2 sg_164q.1
        refine lv_aload_n hx hb dX2_begin_157 rfl (lv_at hl 1 rfl) ?_
        refine lv_iload_n hx hb dX2_begin_158 rfl (lv_at hl 2 rfl) ?_
        have hC0 := hC
        refine c_cv (c_runV (As := [.int (nI t9)]) (rest := []) (q0 := 3) (ci := 2) ⟨hx, hb, hml, hown, htu⟩ (xl_putNumber_7 l G S_155 ((lput 400 L9 (b8 38))) (one z t9) (nI t9) hC (((aw_158.2.2.1 (by decide)).trans ((aw_145.2.2.1 (by decide)).trans hTS))) sg_164t.2.1 sg_164t.2.2.1 ((((hz.aw aw_158t (by decide)).is ht (k := 4) (by decide) (by decide)).mpr (by omega))) (((hz.aw aw_158t (by decide)).f3 ht hs3).1) H) (cwV 1 htu hU_X2_83 rfl rfl rfl (by decide +kernel) ⟨Nat.le_of_ble_eq_true rfl, Nat.le_of_ble_eq_true rfl⟩) hP hK hD hC hpp cw_3 rfl rfl hl.1 rfl (lv_room (Nat.le_of_ble_eq_true rfl)) dX2_begin_159) hS hD hh hpp (fun S_166 H locs hw_167 hP hD hS hC hh hs_168 hpq => ?_)
        clear hpp
        have hpp := hpq
        clear hpq
        try dsimp only at hw_167
        have aw_169 : AW [] [201] S_155 S_166 := hw_167.1
        have aw_169t : AW [19, 20, 21, 22] [201] S S_166 := aw_158t.tr (aw_169.mono (by decide) (by decide))
        have kk_170 : kK S_166 19 = st9.length := (aw_169.2.1 19 (lt35 (by decide)) (by decide)).2.trans kk_159
        have kk_171 : kK S_166 20 = st9.length := (aw_169.2.1 20 (lt35 (by decide)) (by decide)).2.trans kk_160
        have kk_172 : kK S_166 21 = st9.length := (aw_169.2.1 21 (lt35 (by decide)) (by decide)).2.trans kk_161
        have ha_173r : br_123r < 35 + kB S_166 := by have := hs_168.1; have := ha_162r; omega
        have ha_173 : kH S_166 br_123r = r_119 := (hs_168.2 br_123r ha_162r).trans ha_162
        have ty_174 := TY.aw ty_163 aw_169 (by decide)
        have sg_175h : SG S_166 401 (tln (one z t9) (lput 400 L9 (b8 38))) := hw_167.2
        have sg_175q : (tln (one z t9) (lput 400 L9 (b8 38))).length ≤ 400 ∧ ((lput 400 L9 (b8 38))).length ≤ (tln (one z t9) (lput 400 L9 (b8 38))).length := tln_len sg_164t.2.2.1
        have sg_175e : L9.length ≤ (tln (one z t9) (lput 400 L9 (b8 38))).length := Nat.le_trans sg_164e sg_175q.2
        have sg_175l : L9.length < 400 → L9.length < (tln (one z t9) (lput 400 L9 (b8 38))).length := fun h => Nat.lt_of_lt_of_le (sg_164l h) sg_175q.2
        have sg_175t := TKw.aw sg_164t aw_169 (by decide) sg_175h sg_175q.2 sg_175q.1
        have ho4 : st9.length < 400 := tb_1 hos hsp hcap
        have hto : st9.length + 1 ≤ (tln (one z t9) (lput 400 L9 (b8 38))).length := tb_2 hos hsp sg_175e sg_175l
        refine lv_aload_n hx hb dX2_begin_162 rfl (lv_at hl 1 rfl) ?_
        refine va_get (D := gD G) (ci := 2) (v := .ref (kH S 19)) (C := RX2) (T := TX2) (N := 6) hx hb htu cu_in2 hown hK hP 3 cw_3 rfl 1 (by decide) (htu _ C_122) (fun _ h9 => h9) (c_hv (hh.2 19 (lt35 (by decide)))) dX2_begin_163 ?_
        refine lv_iload_n hx hb dX2_begin_166 rfl (lv_at hl 2 rfl) ?_
        have hC0 := hC
        refine c_cv (c_runV (As := [.int (nI t9)]) (rest := []) (q0 := (2 * 19 + 13)) (ci := 0) ⟨hx, hb, hml, hown, htu⟩ (c_addA l G S_166 19 (lt35 (by decide)) hC (kH S 19) (hh.2 19 (lt35 (by decide))) (nI t9) (tb_3 kk_170 ho4 lim_19) H) (cwV 1 htu hU_X2_89 rfl rfl rfl (by decide +kernel) ⟨Nat.le_of_ble_eq_true rfl, Nat.le_of_ble_eq_true rfl⟩) hP hK hD hC hpp (c_hd (hh.2 19 (lt35 (by decide))) (cw_row (lt35 (by decide)))) rfl rfl hl.1 rfl (lv_room (Nat.le_of_ble_eq_true rfl)) dX2_begin_167) hS hD hh hpp (fun S_177 H locs hw_178 hP hD hS hC hh hs_179 hpq => ?_)
        clear hpp
        have hpp := hpq
        clear hpq
        try dsimp only at hw_178
        have aw_180 : AW [19] [] S_166 S_177 := (by obtain ⟨_, _, _, h9, -, -⟩ := hw_178; rw [h9]; exact AW.u (by decide))
        have aw_180t : AW [19, 20, 21, 22] [201] S S_177 := aw_169t.tr (aw_180.mono (by decide) (by decide))
        have kk_181 : kK S_177 20 = st9.length := (aw_180.2.1 20 (lt35 (by decide)) (by decide)).2.trans kk_171
        have kk_182 : kK S_177 21 = st9.length := (aw_180.2.1 21 (lt35 (by decide)) (by decide)).2.trans kk_172
        have ii_183 : S_177.1 201 = nI ((tln (one z t9) (lput 400 L9 (b8 38))).length) := (aw_180.1 201 (by decide)).trans sg_175h.1
        have ha_184r : br_123r < 35 + kB S_177 := by have := hs_179.1; have := ha_173r; omega
        have ha_184 : kH S_177 br_123r = r_119 := (hs_179.2 br_123r ha_173r).trans ha_173
        have ty_185 := TY.aw ty_174 aw_180 (by decide)
        obtain ⟨ad_186n, ad_186q, ad_186g, ad_186u, ad_1861, ad_1862⟩ := hw_178
        have kk_187 : kK S_177 19 = st9.length + 1 := by rw [ad_186u]; exact uR_K.trans (congrArg (· + 1) kk_170)
        refine lv_aload_n hx hb dX2_begin_170 rfl (lv_at hl 1 rfl) ?_
        refine va_get (D := gD G) (ci := 2) (v := .ref (kH S 20)) (C := RX2) (T := TX2) (N := 6) hx hb htu cu_in2 hown hK hP 3 cw_3 rfl 2 (by decide) (htu _ C_123) (fun _ h9 => h9) (c_hv (hh.2 20 (lt35 (by decide)))) dX2_begin_171 ?_
        refine lv_iload_n hx hb dX2_begin_174 rfl (lv_at hl 3 rfl) ?_
        have hC0 := hC
        refine c_cv (c_runV (As := [.int (nI wy)]) (rest := []) (q0 := (2 * 20 + 13)) (ci := 0) ⟨hx, hb, hml, hown, htu⟩ (c_addA l G S_177 20 (lt35 (by decide)) hC (kH S 20) (hh.2 20 (lt35 (by decide))) (nI wy) (tb_3 kk_181 ho4 lim_20) H) (cwV 1 htu hU_X2_89 rfl rfl rfl (by decide +kernel) ⟨Nat.le_of_ble_eq_true rfl, Nat.le_of_ble_eq_true rfl⟩) hP hK hD hC hpp (c_hd (hh.2 20 (lt35 (by decide))) (cw_row (lt35 (by decide)))) rfl rfl hl.1 rfl (lv_room (Nat.le_of_ble_eq_true rfl)) dX2_begin_175) hS hD hh hpp (fun S_189 H locs hw_190 hP hD hS hC hh hs_191 hpq => ?_)
        clear hpp
        have hpp := hpq
        clear hpq
        try dsimp only at hw_190
        have aw_192 : AW [20] [] S_177 S_189 := (by obtain ⟨_, _, _, h9, -, -⟩ := hw_190; rw [h9]; exact AW.u (by decide))
        have aw_192t : AW [19, 20, 21, 22] [201] S S_189 := aw_180t.tr (aw_192.mono (by decide) (by decide))
        have kk_193 : kK S_189 21 = st9.length := (aw_192.2.1 21 (lt35 (by decide)) (by decide)).2.trans kk_182
        have kk_194 : kK S_189 19 = st9.length + 1 := (aw_192.2.1 19 (lt35 (by decide)) (by decide)).2.trans kk_187
        have ii_195 : S_189.1 201 = nI ((tln (one z t9) (lput 400 L9 (b8 38))).length) := (aw_192.1 201 (by decide)).trans ii_183
        have ha_196r : br_123r < 35 + kB S_189 := by have := hs_191.1; have := ha_184r; omega
        have ha_196 : kH S_189 br_123r = r_119 := (hs_191.2 br_123r ha_184r).trans ha_184
        have ty_197 := TY.aw ty_185 aw_192 (by decide)
        obtain ⟨ad_198n, ad_198q, ad_198g, ad_198u, ad_1981, ad_1982⟩ := hw_190
        have kk_199 : kK S_189 20 = st9.length + 1 := by rw [ad_198u]; exact uR_K.trans (congrArg (· + 1) kk_181)
        refine lv_aload_n hx hb dX2_begin_178 rfl (lv_at hl 1 rfl) ?_
        refine va_get (D := gD G) (ci := 2) (v := .ref (kH S 21)) (C := RX2) (T := TX2) (N := 6) hx hb htu cu_in2 hown hK hP 3 cw_3 rfl 3 (by decide) (htu _ C_124) (fun _ h9 => h9) (c_hv (hh.2 21 (lt35 (by decide)))) dX2_begin_179 ?_
        refine lv_iconst (v := 0) hx hb dX2_begin_182 (by decide) ?_
        have hC0 := hC
        refine c_cv (c_runV (As := [.int 0]) (rest := []) (q0 := (2 * 21 + 13)) (ci := 0) ⟨hx, hb, hml, hown, htu⟩ (c_addA l G S_189 21 (lt35 (by decide)) hC (kH S 21) (hh.2 21 (lt35 (by decide))) 0 (tb_3 kk_193 ho4 lim_21) H) (cwV 1 htu hU_X2_89 rfl rfl rfl (by decide +kernel) ⟨Nat.le_of_ble_eq_true rfl, Nat.le_of_ble_eq_true rfl⟩) hP hK hD hC hpp (c_hd (hh.2 21 (lt35 (by decide))) (cw_row (lt35 (by decide)))) rfl rfl hl.1 rfl (lv_room (Nat.le_of_ble_eq_true rfl)) dX2_begin_183) hS hD hh hpp (fun S_201 H locs hw_202 hP hD hS hC hh hs_203 hpq => ?_)
        clear hpp
        have hpp := hpq
        clear hpq
        try dsimp only at hw_202
        have aw_204 : AW [21] [] S_189 S_201 := (by obtain ⟨_, _, _, h9, -, -⟩ := hw_202; rw [h9]; exact AW.u (by decide))
        have aw_204t : AW [19, 20, 21, 22] [201] S S_201 := aw_192t.tr (aw_204.mono (by decide) (by decide))
        have kk_205 : kK S_201 19 = st9.length + 1 := (aw_204.2.1 19 (lt35 (by decide)) (by decide)).2.trans kk_194
        have kk_206 : kK S_201 20 = st9.length + 1 := (aw_204.2.1 20 (lt35 (by decide)) (by decide)).2.trans kk_199
        have ii_207 : S_201.1 201 = nI ((tln (one z t9) (lput 400 L9 (b8 38))).length) := (aw_204.1 201 (by decide)).trans ii_195
        have ha_208r : br_123r < 35 + kB S_201 := by have := hs_203.1; have := ha_196r; omega
        have ha_208 : kH S_201 br_123r = r_119 := (hs_203.2 br_123r ha_196r).trans ha_196
        have ty_209 := TY.aw ty_197 aw_204 (by decide)
        obtain ⟨ad_210n, ad_210q, ad_210g, ad_210u, ad_2101, ad_2102⟩ := hw_202
        have kk_211 : kK S_201 21 = st9.length + 1 := by rw [ad_210u]; exact uR_K.trans (congrArg (· + 1) kk_193)
        have fin9 := TKw.push sg_175t (wst_v hs3).symm ht hwy (by omega) (fun _ => hw9) hto (by decide) (by decide) ad_186u ad_1861 ad_1862 ad_198u ad_1981 ad_1982 ad_210u ad_2101 ad_2102
        exact c_vret hx hb hr hK hP hD hS hC hh hpp ⟨aw_204t, ⟨(t9, wy, 0) :: st9, (tln (one z t9) (lput 400 L9 (b8 38))), fin9, (by rw [bg3b hs3 (fun h => h.elim nc_124 (fun h2 => by rw [hw9] at h2; cases h2)), if_neg nc_153]), sg_175e, Or.inr rfl, sg_175l⟩⟩ dX2_begin_186 hlocks
      · skip
        have nc_153 : wy = 0 := (nI_eq (a := wy) (b := 0) (by omega) (by omega)).mp c_153
        refine lv_bipush (v := 124) hx hb dX2_begin_147 (by decide) ?_
        refine lv_goto (tgt := 154) hx hb dX2_begin_149 (by decide) ?_
        have hC0 := hC
        refine c_cv (c_runV (As := [.int 124]) (rest := []) (q0 := 7) (ci := 1) ⟨hx, hb, hml, hown, htu⟩ (xs_put_7 l G S_142 L9 124 hC on_152t.2.1 on_152t.2.2.1 H) (cwV 1 htu hU_X2_69 rfl rfl rfl (by decide +kernel) ⟨Nat.le_of_ble_eq_true rfl, Nat.le_of_ble_eq_true rfl⟩) hP hK hD hC hpp cw_7 rfl rfl hl.1 rfl (lv_room (Nat.le_of_ble_eq_true rfl)) dX2_begin_154) hS hD hh hpp (fun S_213 H locs hw_214 hP hD hS hC hh hs_215 hpq => ?_)
        clear hpp
        have hpp := hpq
        clear hpq
        try dsimp only at hw_214
        have aw_216 : AW [] [201] S_142 S_213 := hw_214.1
        have aw_216t : AW [19, 20, 21, 22] [201] S S_213 := aw_145t.tr (aw_216.mono (by decide) (by decide))
        have kk_217 : kK S_213 19 = st9.length := (aw_216.2.1 19 (lt35 (by decide)) (by decide)).2.trans kk_146
        have kk_218 : kK S_213 20 = st9.length := (aw_216.2.1 20 (lt35 (by decide)) (by decide)).2.trans kk_147
        have kk_219 : kK S_213 21 = st9.length := (aw_216.2.1 21 (lt35 (by decide)) (by decide)).2.trans kk_148
        have ha_220r : br_123r < 35 + kB S_213 := by have := hs_215.1; have := ha_150r; omega
        have ha_220 : kH S_213 br_123r = r_119 := (hs_215.2 br_123r ha_150r).trans ha_150
        have ty_221 := TY.aw ty_151 aw_216 (by decide)
        have sg_222h : SG S_213 401 (lput 400 L9 (b8 124)) := hw_214.2
        have sg_222q : (lput 400 L9 (b8 124)).length ≤ 400 ∧ (L9).length ≤ (lput 400 L9 (b8 124)).length := lput_len on_152t.2.2.1
        have sg_222e : L9.length ≤ (lput 400 L9 (b8 124)).length := Nat.le_trans (Nat.le_refl _) sg_222q.2
        have sg_222l : L9.length < 400 → L9.length < (lput 400 L9 (b8 124)).length := fun h => lp_s h
        have sg_222t := TKw.aw on_152t aw_216 (by decide) sg_222h sg_222q.2 sg_222q.1
        refine lv_aload_n hx hb dX2_begin_157 rfl (lv_at hl 1 rfl) ?_
        refine lv_iload_n hx hb dX2_begin_158 rfl (lv_at hl 2 rfl) ?_
        have hC0 := hC
        refine c_cv (c_runV (As := [.int (nI t9)]) (rest := []) (q0 := 3) (ci := 2) ⟨hx, hb, hml, hown, htu⟩ (xl_putNumber_7 l G S_213 ((lput 400 L9 (b8 124))) (one z t9) (nI t9) hC (((aw_216.2.2.1 (by decide)).trans ((aw_145.2.2.1 (by decide)).trans hTS))) sg_222t.2.1 sg_222t.2.2.1 ((((hz.aw aw_216t (by decide)).is ht (k := 4) (by decide) (by decide)).mpr (by omega))) (((hz.aw aw_216t (by decide)).f3 ht hs3).1) H) (cwV 1 htu hU_X2_83 rfl rfl rfl (by decide +kernel) ⟨Nat.le_of_ble_eq_true rfl, Nat.le_of_ble_eq_true rfl⟩) hP hK hD hC hpp cw_3 rfl rfl hl.1 rfl (lv_room (Nat.le_of_ble_eq_true rfl)) dX2_begin_159) hS hD hh hpp (fun S_224 H locs hw_225 hP hD hS hC hh hs_226 hpq => ?_)
        clear hpp
        have hpp := hpq
        clear hpq
        try dsimp only at hw_225
        have aw_227 : AW [] [201] S_213 S_224 := hw_225.1
        have aw_227t : AW [19, 20, 21, 22] [201] S S_224 := aw_216t.tr (aw_227.mono (by decide) (by decide))
        have kk_228 : kK S_224 19 = st9.length := (aw_227.2.1 19 (lt35 (by decide)) (by decide)).2.trans kk_217
        have kk_229 : kK S_224 20 = st9.length := (aw_227.2.1 20 (lt35 (by decide)) (by decide)).2.trans kk_218
        have kk_230 : kK S_224 21 = st9.length := (aw_227.2.1 21 (lt35 (by decide)) (by decide)).2.trans kk_219
        have ha_231r : br_123r < 35 + kB S_224 := by have := hs_226.1; have := ha_220r; omega
        have ha_231 : kH S_224 br_123r = r_119 := (hs_226.2 br_123r ha_220r).trans ha_220
        have ty_232 := TY.aw ty_221 aw_227 (by decide)
        have sg_233h : SG S_224 401 (tln (one z t9) (lput 400 L9 (b8 124))) := hw_225.2
        have sg_233q : (tln (one z t9) (lput 400 L9 (b8 124))).length ≤ 400 ∧ ((lput 400 L9 (b8 124))).length ≤ (tln (one z t9) (lput 400 L9 (b8 124))).length := tln_len sg_222t.2.2.1
        have sg_233e : L9.length ≤ (tln (one z t9) (lput 400 L9 (b8 124))).length := Nat.le_trans sg_222e sg_233q.2
        have sg_233l : L9.length < 400 → L9.length < (tln (one z t9) (lput 400 L9 (b8 124))).length := fun h => Nat.lt_of_lt_of_le (sg_222l h) sg_233q.2
        have sg_233t := TKw.aw sg_222t aw_227 (by decide) sg_233h sg_233q.2 sg_233q.1
        have ho4 : st9.length < 400 := tb_1 hos hsp hcap
        have hto : st9.length + 1 ≤ (tln (one z t9) (lput 400 L9 (b8 124))).length := tb_2 hos hsp sg_233e sg_233l
        refine lv_aload_n hx hb dX2_begin_162 rfl (lv_at hl 1 rfl) ?_
        refine va_get (D := gD G) (ci := 2) (v := .ref (kH S 19)) (C := RX2) (T := TX2) (N := 6) hx hb htu cu_in2 hown hK hP 3 cw_3 rfl 1 (by decide) (htu _ C_122) (fun _ h9 => h9) (c_hv (hh.2 19 (lt35 (by decide)))) dX2_begin_163 ?_
        refine lv_iload_n hx hb dX2_begin_166 rfl (lv_at hl 2 rfl) ?_
        have hC0 := hC
        refine c_cv (c_runV (As := [.int (nI t9)]) (rest := []) (q0 := (2 * 19 + 13)) (ci := 0) ⟨hx, hb, hml, hown, htu⟩ (c_addA l G S_224 19 (lt35 (by decide)) hC (kH S 19) (hh.2 19 (lt35 (by decide))) (nI t9) (tb_3 kk_228 ho4 lim_19) H) (cwV 1 htu hU_X2_89 rfl rfl rfl (by decide +kernel) ⟨Nat.le_of_ble_eq_true rfl, Nat.le_of_ble_eq_true rfl⟩) hP hK hD hC hpp (c_hd (hh.2 19 (lt35 (by decide))) (cw_row (lt35 (by decide)))) rfl rfl hl.1 rfl (lv_room (Nat.le_of_ble_eq_true rfl)) dX2_begin_167) hS hD hh hpp (fun S_235 H locs hw_236 hP hD hS hC hh hs_237 hpq => ?_)
        clear hpp
        have hpp := hpq
        clear hpq
        try dsimp only at hw_236
        have aw_238 : AW [19] [] S_224 S_235 := (by obtain ⟨_, _, _, h9, -, -⟩ := hw_236; rw [h9]; exact AW.u (by decide))
        have aw_238t : AW [19, 20, 21, 22] [201] S S_235 := aw_227t.tr (aw_238.mono (by decide) (by decide))
        have kk_239 : kK S_235 20 = st9.length := (aw_238.2.1 20 (lt35 (by decide)) (by decide)).2.trans kk_229
        have kk_240 : kK S_235 21 = st9.length := (aw_238.2.1 21 (lt35 (by decide)) (by decide)).2.trans kk_230
        have ii_241 : S_235.1 201 = nI ((tln (one z t9) (lput 400 L9 (b8 124))).length) := (aw_238.1 201 (by decide)).trans sg_233h.1
        have ha_242r : br_123r < 35 + kB S_235 := by have := hs_237.1; have := ha_231r; omega
        have ha_242 : kH S_235 br_123r = r_119 := (hs_237.2 br_123r ha_231r).trans ha_231
        have ty_243 := TY.aw ty_232 aw_238 (by decide)
        obtain ⟨ad_244n, ad_244q, ad_244g, ad_244u, ad_2441, ad_2442⟩ := hw_236
        have kk_245 : kK S_235 19 = st9.length + 1 := by rw [ad_244u]; exact uR_K.trans (congrArg (· + 1) kk_228)
        refine lv_aload_n hx hb dX2_begin_170 rfl (lv_at hl 1 rfl) ?_
        refine va_get (D := gD G) (ci := 2) (v := .ref (kH S 20)) (C := RX2) (T := TX2) (N := 6) hx hb htu cu_in2 hown hK hP 3 cw_3 rfl 2 (by decide) (htu _ C_123) (fun _ h9 => h9) (c_hv (hh.2 20 (lt35 (by decide)))) dX2_begin_171 ?_
        refine lv_iload_n hx hb dX2_begin_174 rfl (lv_at hl 3 rfl) ?_
        have hC0 := hC
        refine c_cv (c_runV (As := [.int (nI wy)]) (rest := []) (q0 := (2 * 20 + 13)) (ci := 0) ⟨hx, hb, hml, hown, htu⟩ (c_addA l G S_235 20 (lt35 (by decide)) hC (kH S 20) (hh.2 20 (lt35 (by decide))) (nI wy) (tb_3 kk_239 ho4 lim_20) H) (cwV 1 htu hU_X2_89 rfl rfl rfl (by decide +kernel) ⟨Nat.le_of_ble_eq_true rfl, Nat.le_of_ble_eq_true rfl⟩) hP hK hD hC hpp (c_hd (hh.2 20 (lt35 (by decide))) (cw_row (lt35 (by decide)))) rfl rfl hl.1 rfl (lv_room (Nat.le_of_ble_eq_true rfl)) dX2_begin_175) hS hD hh hpp (fun S_247 H locs hw_248 hP hD hS hC hh hs_249 hpq => ?_)
        clear hpp
        have hpp := hpq
        clear hpq
        try dsimp only at hw_248
        have aw_250 : AW [20] [] S_235 S_247 := (by obtain ⟨_, _, _, h9, -, -⟩ := hw_248; rw [h9]; exact AW.u (by decide))
        have aw_250t : AW [19, 20, 21, 22] [201] S S_247 := aw_238t.tr (aw_250.mono (by decide) (by decide))
        have kk_251 : kK S_247 21 = st9.length := (aw_250.2.1 21 (lt35 (by decide)) (by decide)).2.trans kk_240
        have kk_252 : kK S_247 19 = st9.length + 1 := (aw_250.2.1 19 (lt35 (by decide)) (by decide)).2.trans kk_245
        have ii_253 : S_247.1 201 = nI ((tln (one z t9) (lput 400 L9 (b8 124))).length) := (aw_250.1 201 (by decide)).trans ii_241
        have ha_254r : br_123r < 35 + kB S_247 := by have := hs_249.1; have := ha_242r; omega
        have ha_254 : kH S_247 br_123r = r_119 := (hs_249.2 br_123r ha_242r).trans ha_242
        have ty_255 := TY.aw ty_243 aw_250 (by decide)
        obtain ⟨ad_256n, ad_256q, ad_256g, ad_256u, ad_2561, ad_2562⟩ := hw_248
        have kk_257 : kK S_247 20 = st9.length + 1 := by rw [ad_256u]; exact uR_K.trans (congrArg (· + 1) kk_239)
        refine lv_aload_n hx hb dX2_begin_178 rfl (lv_at hl 1 rfl) ?_
        refine va_get (D := gD G) (ci := 2) (v := .ref (kH S 21)) (C := RX2) (T := TX2) (N := 6) hx hb htu cu_in2 hown hK hP 3 cw_3 rfl 3 (by decide) (htu _ C_124) (fun _ h9 => h9) (c_hv (hh.2 21 (lt35 (by decide)))) dX2_begin_179 ?_
        refine lv_iconst (v := 0) hx hb dX2_begin_182 (by decide) ?_
        have hC0 := hC
        refine c_cv (c_runV (As := [.int 0]) (rest := []) (q0 := (2 * 21 + 13)) (ci := 0) ⟨hx, hb, hml, hown, htu⟩ (c_addA l G S_247 21 (lt35 (by decide)) hC (kH S 21) (hh.2 21 (lt35 (by decide))) 0 (tb_3 kk_251 ho4 lim_21) H) (cwV 1 htu hU_X2_89 rfl rfl rfl (by decide +kernel) ⟨Nat.le_of_ble_eq_true rfl, Nat.le_of_ble_eq_true rfl⟩) hP hK hD hC hpp (c_hd (hh.2 21 (lt35 (by decide))) (cw_row (lt35 (by decide)))) rfl rfl hl.1 rfl (lv_room (Nat.le_of_ble_eq_true rfl)) dX2_begin_183) hS hD hh hpp (fun S_259 H locs hw_260 hP hD hS hC hh hs_261 hpq => ?_)
        clear hpp
        have hpp := hpq
        clear hpq
        try dsimp only at hw_260
        have aw_262 : AW [21] [] S_247 S_259 := (by obtain ⟨_, _, _, h9, -, -⟩ := hw_260; rw [h9]; exact AW.u (by decide))
        have aw_262t : AW [19, 20, 21, 22] [201] S S_259 := aw_250t.tr (aw_262.mono (by decide) (by decide))
        have kk_263 : kK S_259 19 = st9.length + 1 := (aw_262.2.1 19 (lt35 (by decide)) (by decide)).2.trans kk_252
        have kk_264 : kK S_259 20 = st9.length + 1 := (aw_262.2.1 20 (lt35 (by decide)) (by decide)).2.trans kk_257
        have ii_265 : S_259.1 201 = nI ((tln (one z t9) (lput 400 L9 (b8 124))).length) := (aw_262.1 201 (by decide)).trans ii_253
        have ha_266r : br_123r < 35 + kB S_259 := by have := hs_261.1; have := ha_254r; omega
        have ha_266 : kH S_259 br_123r = r_119 := (hs_261.2 br_123r ha_254r).trans ha_254
        have ty_267 := TY.aw ty_255 aw_262 (by decide)
        obtain ⟨ad_268n, ad_268q, ad_268g, ad_268u, ad_2681, ad_2682⟩ := hw_260
        have kk_269 : kK S_259 21 = st9.length + 1 := by rw [ad_268u]; exact uR_K.trans (congrArg (· + 1) kk_251)
        have fin9 := TKw.push sg_233t (wst_v hs3).symm ht hwy (by omega) (fun _ => hw9) hto (by decide) (by decide) ad_244u ad_2441 ad_2442 ad_256u ad_2561 ad_2562 ad_268u ad_2681 ad_2682
        exact c_vret hx hb hr hK hP hD hS hC hh hpp ⟨aw_262t, ⟨(t9, wy, 0) :: st9, (tln (one z t9) (lput 400 L9 (b8 124))), fin9, (by rw [bg3b hs3 (fun h => h.elim nc_124 (fun h2 => by rw [hw9] at h2; cases h2)), if_pos nc_153]), sg_233e, Or.inr rfl, sg_233l⟩⟩ dX2_begin_186 hlocks
    · skip
      have hw9 : wsk z st9 (2 * one z t9 + wy) = true := hio.mp (hw_138.symm.trans c_140)
      refine lv_aload_n hx hb dX2_begin_124 rfl (lv_at hl 1 rfl) ?_
      refine lv_iload_n hx hb dX2_begin_125 rfl (lv_at hl 2 rfl) ?_
      have hC0 := hC
      refine c_cv (c_runV (As := [.int (nI t9)]) (rest := []) (q0 := 3) (ci := 2) ⟨hx, hb, hml, hown, htu⟩ (xl_putNumber_7 l G S L9 (one z t9) (nI t9) hC hTS hTK.2.1 hTK.2.2.1 (((hz.is ht (k := 4) (by decide) (by decide)).mpr (by omega))) ((hz.f3 ht hs3).1) H) (cwV 1 htu hU_X2_83 rfl rfl rfl (by decide +kernel) ⟨Nat.le_of_ble_eq_true rfl, Nat.le_of_ble_eq_true rfl⟩) hP hK hD hC hpp cw_3 rfl rfl hl.1 rfl (lv_room (Nat.le_of_ble_eq_true rfl)) dX2_begin_126) hS hD hh hpp (fun S_271 H locs hw_272 hP hD hS hC hh hs_273 hpq => ?_)
      clear hpp
      have hpp := hpq
      clear hpq
      try dsimp only at hw_272
      have aw_274 : AW [] [201] S S_271 := hw_272.1
      have aw_274t : AW [19, 20, 21, 22] [201] S S_271 := AW.rf.tr (aw_274.mono (by decide) (by decide))
      have kk_275 : kK S_271 19 = st9.length := (aw_274.2.1 19 (lt35 (by decide)) (by decide)).2.trans h19
      have kk_276 : kK S_271 20 = st9.length := (aw_274.2.1 20 (lt35 (by decide)) (by decide)).2.trans h20
      have kk_277 : kK S_271 21 = st9.length := (aw_274.2.1 21 (lt35 (by decide)) (by decide)).2.trans h21
      have ha_278r : br_123r < 35 + kB S_271 := by have := hs_273.1; have := br_123l; omega
      have ha_278 : kH S_271 br_123r = r_119 := (hs_273.2 br_123r br_123l).trans br_123h
      have ty_279 := TY.aw hY aw_274 (by decide)
      have sg_280h : SG S_271 401 (tln (one z t9) L9) := hw_272.2
      have sg_280q : (tln (one z t9) L9).length ≤ 400 ∧ (L9).length ≤ (tln (one z t9) L9).length := tln_len hTK.2.2.1
      have sg_280e : L9.length ≤ (tln (one z t9) L9).length := Nat.le_trans (Nat.le_refl _) sg_280q.2
      have sg_280l : L9.length < 400 → L9.length < (tln (one z t9) L9).length := fun h => tln_s h
      have sg_280t := TKw.aw hTK aw_274 (by decide) sg_280h sg_280q.2 sg_280q.1
      exact c_vret hx hb hr hK hP hD hS hC hh hpp ⟨aw_274t, ⟨st9, (tln (one z t9) L9), sg_280t, (bg3a hs3 (Or.inr hw9)).symm, sg_280e, Or.inl rfl, sg_280l⟩⟩ dX2_begin_129 hlocks

