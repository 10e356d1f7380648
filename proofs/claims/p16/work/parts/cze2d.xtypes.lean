set_option maxHeartbeats 4000000 in
set_option maxRecDepth 100000 in
/-- addVariable -/
theorem x_addVariable (l : Launch) (G : cG) (S : cS) (T : Nat) (V : Nat) (VP : Nat) (X : Nat) (Y : Nat) (Z : Nat) (z : aS) (l9 : Nat) (hC : CL S) (hY : TY S T V VP X Y Z) (hVP : VP = V) (hz : KT S z) (hl9 : l9 ≤ 100) (Hs : Heap) : Met l yX4_addVariable (wC yX4_addVariable cX4_addVariable 4 (some .int)) (cRm S 4 128) (cPc G S Hs [.ref (ga G 2), .int (nI l9)]) (cQi G S Hs (fun v u => AW [6, 7, 8, 9, 16, 14, 35] [] S u ∧ ((v = -6 ∧ u = S ∧ (nV z = 150 ∨ nT z = 602)) ∨ (v = nI T ∧ T < 602 ∧ TY u (T + 1) (V + 1) (V + 1) X Y Z ∧ OC S u T ∧ kF u 6 T = 4 ∧ kF u 8 T = nI V ∧ (V < 150 ∧ (∀ j, j < 2 * V → kK u (35 + j) = kK S (35 + j)) ∧ kK u (35 + 2 * V) = 0 ∧ kK u (35 + (2 * V + 1)) = 0) ∧ (nV z ≠ 150 ∧ KT u (newV z l9)) ∧ (kF u 16 T = -9 ∧ ∀ t, t < T → kF u 16 t = kF S 16 t))))) (CC - PT S) (12 * (CC - PT S)) (cA G S Hs.size) := by
  refine Met.ofW (cc := cX4_addVariable) (maxL := 4) (ret := (some .int)) (by decide) rfl ?_
  intro p e s m args below meth c s₁ B hml hv
  obtain ⟨rfl, hsz, hP, hK, hD0, -⟩ := hv
  have hx := B.exec
  have hb := B.bytes
  have hr := B.returns
  have htu : ∀ w ∈ CU, w.before _ s = true := fun w h => atoms_spec (ws := (wC yX4_addVariable cX4_addVariable 4 (some .int))) B.pre w (List.mem_cons_of_mem _ h)
  have hown : s.vm.findClass RX4 = some m.cls := findClass_of_methodNamed B.named
  have hlocks := B.notSynchronized
  subst hsz
  have hD : cD (cA G S s.heap.size) G S := cD_self hD0
  have hl := lv_entry ([.ref (ga G 2), .int (nI l9)]) (n := 4) (Nat.le_of_ble_eq_true rfl)
  rw [lg_entry_eq]
  generalize (lg_sl ([.ref (ga G 2), .int (nI l9)]) ++ List.replicate (4 - (lg_sl ([.ref (ga G 2), .int (nI l9)])).length) Slot.unset).toArray = ls at hl ⊢
  have hl : lv_has ls 4 [(0, .ref (ga G 2)), (1, .int (nI l9))] := hl
  obtain ⟨H, hHe⟩ : ∃ H : Heap, H = s.heap := ⟨_, rfl⟩
  rw [← hHe] at hP
  have hS : va_S (cA G S s.heap.size) s.heap H [] := by rw [hHe]; exact va_S.rf
  have hh : HS S S := HS.rf
  have hpp : PT S ≤ PT S := Nat.le_refl _
  have hB9 := hC.1
  refine W.heq hHe ?_
  refine c_ent (S := S) ?_
  obtain ⟨⟨k6, k7, k8, k9, k16, k14, k10, k11, k12, k13, k17, k18⟩, ⟨tT, tV, tB, tX⟩, tv, tr, ts⟩ := id hY
  have hTz : nT z = T := hz.1.1.symm.trans k6
  have hVz : nV z = V := hz.1.2.2.2.2.1.symm.trans k14
  refine lv_aload_n hx hb dX4_addVariable_0 rfl (lv_at hl 0 rfl) ?_
  refine va_get (D := gD G) (ci := 4) (v := .ref (kH S 14)) (C := RX4) (T := TX4) (N := 14) hx hb htu cu_in4 hown hK hP 2 cw_2 rfl 8 (by decide) (htu _ C_74) (fun _ h9 => h9) rfl dX4_addVariable_1 ?_
  refine va_get (D := gD G) (ci := 0) (v := .int (nI V)) (C := RX0) (T := TX0) (N := 2) hx hb htu cu_in0 hown hK hP (2 * 14 + 13) (c_hd rfl (cw_row (lt35 (by decide)))) rfl 1 (by decide) (htu _ C_94) (fun _ h9 => h9) (m_v (congrArg nI k14)) dX4_addVariable_4 ?_
  refine lv_istore_n (lv' := [(2, .int (nI V)), (0, .ref (ga G 2)), (1, .int (nI l9))]) hx hb dX4_addVariable_7 rfl hl (by decide) rfl (fun ls hl => ?_)
  refine lv_iload_n hx hb dX4_addVariable_8 rfl (lv_at hl 0 rfl) ?_
  refine lv_sipush (v := 150) hx hb dX4_addVariable_9 (by decide) ?_
  refine lv_icmp_lt (tgt := 18) hx hb dX4_addVariable_12 (by decide) (fun c_1 => ?_) (fun c_1 => ?_)
  · skip
    have nc_1 : V < 150 := (nI_ltI (a := V) (b := 150) (by omega) (by omega)).mp c_1
    refine lv_aload_n hx hb dX4_addVariable_18 rfl (lv_at hl 1 rfl) ?_
    refine lv_iconst (v := 4) hx hb dX4_addVariable_19 (by decide) ?_
    refine lv_iload_n hx hb dX4_addVariable_20 rfl (lv_at hl 2 rfl) ?_
    refine lv_iload_n hx hb dX4_addVariable_21 rfl (lv_at hl 0 rfl) ?_
    refine lv_bipush (v := (-9)) hx hb dX4_addVariable_22 (by decide) ?_
    have hC0 := hC
    refine c_ci (c_runV (As := [.int 4, .int (nI l9), .int (nI V), .int ((-9))]) (rest := []) (q0 := 2) (ci := 4) ⟨hx, hb, hml, hown, htu⟩ (x_addType l G S T V VP X Y Z ((V + 1)) 4 (nI l9) (nI V) ((-9)) hC hY ((by omega)) ((fun _ => ⟨⟨V, Nat.lt_succ_self _, rfl⟩, Int32.not_lt.mp (nI_n0 (by omega))⟩)) ((fun h => absurd h (by decide))) ((Or.inr (Or.inr (Or.inl rfl)))) H) (cwV 4 htu hU_X4_65 rfl rfl rfl (by decide +kernel) ⟨Nat.le_of_ble_eq_true rfl, Nat.le_of_ble_eq_true rfl⟩) hP hK hD hC hpp cw_2 rfl rfl hl.1 rfl (lv_room (Nat.le_of_ble_eq_true rfl)) dX4_addVariable_24) hS hD hh hpp (fun r_2 S_3 H locs hw_4 hP hD hS hC hh hs_5 hpq => ?_)
    clear hpp
    have hpp := hpq
    clear hpq
    try dsimp only at hw_4
    have aw_6 : AW [6, 7, 8, 9, 16] [] S S_3 := hw_4.1
    have aw_6t : AW [6, 7, 8, 9, 16, 14, 35] [] S S_3 := AW.rf.tr (aw_6.mono (by decide) (by decide))
    have kk_7 : kK S_3 14 = V := (aw_6.2.1 14 (lt35 (by decide)) (by decide)).2.trans k14
    have kk_8 : kK S_3 10 = X := (aw_6.2.1 10 (lt35 (by decide)) (by decide)).2.trans k10
    have kk_9 : kK S_3 11 = X := (aw_6.2.1 11 (lt35 (by decide)) (by decide)).2.trans k11
    have kk_10 : kK S_3 12 = Y := (aw_6.2.1 12 (lt35 (by decide)) (by decide)).2.trans k12
    have kk_11 : kK S_3 13 = Y := (aw_6.2.1 13 (lt35 (by decide)) (by decide)).2.trans k13
    have kk_12 : kK S_3 17 = Z := (aw_6.2.1 17 (lt35 (by decide)) (by decide)).2.trans k17
    have kk_13 : kK S_3 18 = Z := (aw_6.2.1 18 (lt35 (by decide)) (by decide)).2.trans k18
    have hw_49 := hw_4.2
    clear hw_4
    rcases hw_49 with ⟨ty_14v, ty_14s, ty_14f⟩ | ⟨ty_14v, ty_14t, ty_14, ty_14o, ty_144, ty_148, ty_14a, ty_14l⟩
    · skip
      subst ty_14v
      refine lv_istore_n (lv' := [(3, .int ((-6))), (2, .int (nI V)), (0, .ref (ga G 2)), (1, .int (nI l9))]) hx hb dX4_addVariable_27 rfl hl (by decide) rfl (fun ls hl => ?_)
      refine lv_iload_n hx hb dX4_addVariable_28 rfl (lv_at hl 0 rfl) ?_
      refine lv_if_ge (tgt := 34) hx hb dX4_addVariable_29 (by decide) (fun c_15 => absurd c_15 (by decide)) (fun c_15 => ?_)
      refine lv_iload_n hx hb dX4_addVariable_32 rfl (lv_at hl 0 rfl) ?_
      exact c_iret (v := (-6)) hx hb hr hK hP hD hS hC hh hpp ⟨aw_6t, (Or.inl ⟨rfl, ty_14s, Or.inr (hTz.trans ty_14f)⟩)⟩ dX4_addVariable_33 hlocks
    · skip
      subst ty_14v
      refine lv_istore_n (lv' := [(3, .int (nI T)), (2, .int (nI V)), (0, .ref (ga G 2)), (1, .int (nI l9))]) hx hb dX4_addVariable_27 rfl hl (by decide) rfl (fun ls hl => ?_)
      refine lv_iload_n hx hb dX4_addVariable_28 rfl (lv_at hl 0 rfl) ?_
      refine lv_if_ge (tgt := 34) hx hb dX4_addVariable_29 (by decide) (fun c_16 => ?_) (fun c_16 => absurd (Int32.not_lt.mp (nI_n0 (by omega))) c_16)
      have t150 : V < 150 := nc_1
      have b9 : 2 * V ≤ kB S_3 := ty_14.2.1.2.2.1
      refine lv_aload_n hx hb dX4_addVariable_34 rfl (lv_at hl 2 rfl) ?_
      refine va_get (D := gD G) (ci := 4) (v := .ref (kH S 14)) (C := RX4) (T := TX4) (N := 14) hx hb htu cu_in4 hown hK hP 2 cw_2 rfl 8 (by decide) (htu _ C_74) (fun _ h9 => h9) (c_hv (hh.2 14 (lt35 (by decide)))) dX4_addVariable_35 ?_
      refine lv_iload_n hx hb dX4_addVariable_38 rfl (lv_at hl 0 rfl) ?_
      have hC0 := hC
      refine c_cv (c_runV (As := [.int (nI T)]) (rest := []) (q0 := (2 * 14 + 13)) (ci := 0) ⟨hx, hb, hml, hown, htu⟩ (c_addA l G S_3 14 (lt35 (by decide)) hC (kH S 14) (hh.2 14 (lt35 (by decide))) (nI T) (show kK S_3 14 < lim 14 by rw [ty_14.1.2.2.2.2.2.1, lim_14]; omega) H) (cwV 1 htu hU_X4_73 rfl rfl rfl (by decide +kernel) ⟨Nat.le_of_ble_eq_true rfl, Nat.le_of_ble_eq_true rfl⟩) hP hK hD hC hpp (c_hd (hh.2 14 (lt35 (by decide))) (cw_row (lt35 (by decide)))) rfl rfl hl.1 rfl (lv_room (Nat.le_of_ble_eq_true rfl)) dX4_addVariable_39) hS hD hh hpp (fun S_18 H locs hw_19 hP hD hS hC hh hs_20 hpq => ?_)
      clear hpp
      have hpp := hpq
      clear hpq
      try dsimp only at hw_19
      have aw_21 : AW [14] [] S_3 S_18 := (by obtain ⟨_, _, _, h9, -, -⟩ := hw_19; rw [h9]; exact AW.u (by decide))
      have aw_21t : AW [6, 7, 8, 9, 16, 14, 35] [] S S_18 := aw_6t.tr (aw_21.mono (by decide) (by decide))
      have kk_22 : kK S_18 10 = X := (aw_21.2.1 10 (lt35 (by decide)) (by decide)).2.trans kk_8
      have kk_23 : kK S_18 11 = X := (aw_21.2.1 11 (lt35 (by decide)) (by decide)).2.trans kk_9
      have kk_24 : kK S_18 12 = Y := (aw_21.2.1 12 (lt35 (by decide)) (by decide)).2.trans kk_10
      have kk_25 : kK S_18 13 = Y := (aw_21.2.1 13 (lt35 (by decide)) (by decide)).2.trans kk_11
      have kk_26 : kK S_18 17 = Z := (aw_21.2.1 17 (lt35 (by decide)) (by decide)).2.trans kk_12
      have kk_27 : kK S_18 18 = Z := (aw_21.2.1 18 (lt35 (by decide)) (by decide)).2.trans kk_13
      obtain ⟨ad_28n, ad_28q, ad_28g, ad_28u, ad_281, ad_282⟩ := hw_19
      have kk_29 : kK S_18 14 = V + 1 := by rw [ad_28u]; exact uR_K.trans (congrArg (· + 1) ty_14.1.2.2.2.2.2.1)
      obtain ⟨fF_30a, fF_30b⟩ := ad_F ad_28u ad_281 ad_282
      refine lv_aload_n hx hb dX4_addVariable_42 rfl (lv_at hl 2 rfl) ?_
      refine lv_iconst (v := 2) hx hb dX4_addVariable_43 (by decide) ?_
      refine lv_iload_n hx hb dX4_addVariable_44 rfl (lv_at hl 1 rfl) ?_
      refine lv_imul hx hb dX4_addVariable_45 ?_
      refine m_top (y := nI (2 * V)) (pk_mul 2 V) ?_
      refine lv_iconst (v := 0) hx hb dX4_addVariable_46 (by decide) ?_
      refine lv_iadd hx hb dX4_addVariable_47 ?_
      refine m_top (y := nI (2 * V)) (Int32.add_zero _) ?_
      have b10 : 2 * V ≤ kB S_18 := Nat.le_trans b9 aw_21.2.2.2.1
      have hC0 := hC
      refine c_cv (c_runV (As := [.int (nI (2 * V))]) (rest := []) (q0 := 2) (ci := 4) ⟨hx, hb, hml, hown, htu⟩ (x_emptyBounds l G S_18 (2 * V) hC ((by omega)) ((show _ ≤ _ by omega)) H) (cwV 1 htu hU_X4_76 rfl rfl rfl (by decide +kernel) ⟨Nat.le_of_ble_eq_true rfl, Nat.le_of_ble_eq_true rfl⟩) hP hK hD hC hpp cw_2 rfl rfl hl.1 rfl (lv_room (Nat.le_of_ble_eq_true rfl)) dX4_addVariable_48) hS hD hh hpp (fun S_32 H locs hw_33 hP hD hS hC hh hs_34 hpq => ?_)
      clear hpp
      have hpp := hpq
      clear hpq
      try dsimp only at hw_33
      have aw_35 : AW [35] [] S_18 S_32 := hw_33.1
      have aw_35t : AW [6, 7, 8, 9, 16, 14, 35] [] S S_32 := aw_21t.tr (aw_35.mono (by decide) (by decide))
      have kk_36 : kK S_32 10 = X := (aw_35.2.1 10 (lt35 (by decide)) (by decide)).2.trans kk_22
      have kk_37 : kK S_32 11 = X := (aw_35.2.1 11 (lt35 (by decide)) (by decide)).2.trans kk_23
      have kk_38 : kK S_32 12 = Y := (aw_35.2.1 12 (lt35 (by decide)) (by decide)).2.trans kk_24
      have kk_39 : kK S_32 13 = Y := (aw_35.2.1 13 (lt35 (by decide)) (by decide)).2.trans kk_25
      have kk_40 : kK S_32 17 = Z := (aw_35.2.1 17 (lt35 (by decide)) (by decide)).2.trans kk_26
      have kk_41 : kK S_32 18 = Z := (aw_35.2.1 18 (lt35 (by decide)) (by decide)).2.trans kk_27
      have kk_42 : kK S_32 14 = V + 1 := (aw_35.2.1 14 (lt35 (by decide)) (by decide)).2.trans kk_29
      obtain ⟨-, eb_431, eb_432, eb_433⟩ := id hw_33
      refine lv_aload_n hx hb dX4_addVariable_51 rfl (lv_at hl 2 rfl) ?_
      refine lv_iconst (v := 2) hx hb dX4_addVariable_52 (by decide) ?_
      refine lv_iload_n hx hb dX4_addVariable_53 rfl (lv_at hl 1 rfl) ?_
      refine lv_imul hx hb dX4_addVariable_54 ?_
      refine m_top (y := nI (2 * V)) (pk_mul 2 V) ?_
      refine lv_iconst (v := 1) hx hb dX4_addVariable_55 (by decide) ?_
      refine lv_iadd hx hb dX4_addVariable_56 ?_
      refine m_top (y := nI (2 * V + 1)) (nI_add _ 1) ?_
      have hC0 := hC
      refine c_cv (c_runV (As := [.int (nI (2 * V + 1))]) (rest := []) (q0 := 2) (ci := 4) ⟨hx, hb, hml, hown, htu⟩ (x_emptyBounds l G S_32 (2 * V + 1) hC ((by omega)) ((Nat.succ_le_of_lt eb_431)) H) (cwV 1 htu hU_X4_76 rfl rfl rfl (by decide +kernel) ⟨Nat.le_of_ble_eq_true rfl, Nat.le_of_ble_eq_true rfl⟩) hP hK hD hC hpp cw_2 rfl rfl hl.1 rfl (lv_room (Nat.le_of_ble_eq_true rfl)) dX4_addVariable_57) hS hD hh hpp (fun S_45 H locs hw_46 hP hD hS hC hh hs_47 hpq => ?_)
      clear hpp
      have hpp := hpq
      clear hpq
      try dsimp only at hw_46
      have aw_48 : AW [35] [] S_32 S_45 := hw_46.1
      have aw_48t : AW [6, 7, 8, 9, 16, 14, 35] [] S S_45 := aw_35t.tr (aw_48.mono (by decide) (by decide))
      have kk_49 : kK S_45 10 = X := (aw_48.2.1 10 (lt35 (by decide)) (by decide)).2.trans kk_36
      have kk_50 : kK S_45 11 = X := (aw_48.2.1 11 (lt35 (by decide)) (by decide)).2.trans kk_37
      have kk_51 : kK S_45 12 = Y := (aw_48.2.1 12 (lt35 (by decide)) (by decide)).2.trans kk_38
      have kk_52 : kK S_45 13 = Y := (aw_48.2.1 13 (lt35 (by decide)) (by decide)).2.trans kk_39
      have kk_53 : kK S_45 17 = Z := (aw_48.2.1 17 (lt35 (by decide)) (by decide)).2.trans kk_40
      have kk_54 : kK S_45 18 = Z := (aw_48.2.1 18 (lt35 (by decide)) (by decide)).2.trans kk_41
      have kk_55 : kK S_45 14 = V + 1 := (aw_48.2.1 14 (lt35 (by decide)) (by decide)).2.trans kk_42
      obtain ⟨-, eb_561, eb_562, eb_563⟩ := id hw_46
      refine lv_iload_n hx hb dX4_addVariable_60 rfl (lv_at hl 0 rfl) ?_
      have w9 : AW [14, 35] [] S_3 S_45 := (aw_21.mono (by decide) (by decide)).tr ((aw_35.mono (by decide) (by decide)).tr (aw_48.mono (by decide) (by decide)))
      have z14 : kK S_45 14 = V + 1 := (aw_48.2.1 14 (lt35 (by decide)) (by decide)).2.trans ((aw_35.2.1 14 (lt35 (by decide)) (by decide)).2.trans kk_29)
      have fin := ty_14.var w9 z14 t150 (show 2 * (V + 1) ≤ kB S_45 from eb_561)
      have ob : OB S S_45 V := fun j hj => by
        have c1 := eb_563 j (Nat.lt_trans hj eb_431) (Nat.ne_of_lt (Nat.lt_succ_of_lt hj))
        have c2 := eb_433 j (Nat.lt_of_lt_of_le hj b10) (Nat.ne_of_lt hj)
        have c3 := aw_21.2.1 (35 + j) (Nat.add_lt_add_left (Nat.lt_of_lt_of_le hj b9) 35) (by rw [Nat.min_eq_right (Nat.le_add_right 35 j)]; decide)
        have c4 := aw_6.2.1 (35 + j) (Nat.add_lt_add_left (Nat.lt_of_lt_of_le hj tB) 35) (by rw [Nat.min_eq_right (Nat.le_add_right 35 j)]; decide)
        exact ⟨c1.1.trans (c2.1.trans (c3.2.trans c4.2)), c1.2.trans (c2.2.trans (c3.1.trans c4.1))⟩
      have g14 : kF S_45 14 = kF S_18 14 := (aw_48.2.1 14 (lt35 (by decide)) (by decide)).1.trans (aw_35.2.1 14 (lt35 (by decide)) (by decide)).1
      have g14o : kF S_3 14 = kF S 14 := (aw_6.2.1 14 (lt35 (by decide)) (by decide)).1
      have g14k : kK S_3 14 = V := ty_14.1.2.2.2.2.2.1
      have h14 : kK S_45 14 = nV z + 1 ∧ kF S_45 14 (nV z) = nI (nT z) ∧ ∀ v, v < nV z → kF S_45 14 v = kF S 14 v := by
        rw [hVz, hTz]
        refine ⟨z14, ?_, fun v hv => ?_⟩
        · rw [g14, ← g14k]; exact fF_30b
        · rw [g14, fF_30a v (by rw [g14k]; exact hv), g14o]
      have r9 : ∀ r, r < 35 → r ∉ [14, 35] → kF S_45 r = kF S_3 r ∧ kK S_45 r = kK S_3 r := fun r h1 h2 => w9.2.1 r (lt35 h1) (by rw [Nat.min_eq_left (Nat.le_of_lt h1)]; exact h2)
      have ad9 : AD S S_45 (nT z) 4 (nI l9) (nI (nV z)) (-9) := by rw [hTz, hVz]; exact AD.to ty_14a (r9 6 (by decide) (by decide)) (r9 7 (by decide) (by decide)) (r9 8 (by decide) (by decide)) (r9 9 (by decide) (by decide))
      have aw9 := aw_48t
      have k9a : kK S_45 (35 + 2 * V) = 0 := (eb_563 (2 * V) eb_431 (Nat.ne_of_lt (Nat.lt_succ_self _))).1.trans eb_432
      have kt9 : KT S_45 (newV z l9) := kt_newV hz (by rw [hVz]; exact t150) (by rw [hTz]; exact ty_14t) hl9 ad9 h14 ⟨(aw9.2.1 10 (lt35 (by decide)) (by decide)).1, (aw9.2.1 11 (lt35 (by decide)) (by decide)).1, (aw9.2.1 10 (lt35 (by decide)) (by decide)).2, (aw9.2.1 11 (lt35 (by decide)) (by decide)).2⟩ (by rw [hVz]; exact ob) (by rw [hVz]; exact k9a) (by rw [hVz]; exact eb_562) (by rw [hVz]; exact eb_561)
      exact c_iret (v := nI T) hx hb hr hK hP hD hS hC hh hpp ⟨aw_48t, (Or.inr ⟨rfl, ty_14t, fin, ty_14o.tr (T' := T) (OC.aw w9 (by decide)) (Nat.le_refl _), (r9 6 (by decide) (by decide)).1 ▸ ty_144, (r9 8 (by decide) (by decide)).1 ▸ ty_148, ⟨t150, fun j hj => (ob j hj).1, k9a, eb_562⟩, ⟨fun h => absurd (hVz.symm.trans h) (Nat.ne_of_lt t150), kt9⟩, by rw [(r9 16 (by decide) (by decide)).1]; exact ty_14l⟩)⟩ dX4_addVariable_61 hlocks
  · skip
    have nc_1 : ¬ V < 150 := fun h9 => c_1 ((nI_ltI (a := V) (b := 150) (by omega) (by omega)).mpr h9)
    refine lv_bipush (v := (-6)) hx hb dX4_addVariable_15 (by decide) ?_
    exact c_iret (v := (-6)) hx hb hr hK hP hD hS hC hh hpp ⟨AW.rf, (Or.inl ⟨rfl, rfl, Or.inl (hVz.trans (Nat.le_antisymm tV (Nat.not_lt.mp nc_1)))⟩)⟩ dX4_addVariable_17 hlocks

