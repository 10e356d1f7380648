set_option maxHeartbeats 4000000 in
set_option maxRecDepth 100000 in
/-- tell -/
theorem l_tell_7 (l : Launch) (G : cG) (S : cS) (T : Nat) (V : Nat) (VP : Nat) (X : Nat) (Y : Nat) (Z : Nat) (wy : Nat) (t : Int32) (hC : CL S) (hY : TY S T V VP X Y Z) (hVP : VP ≤ V) (h19 : kK S 19 = 0) (h20 : kK S 20 = 0) (h21 : kK S 21 = 0) (hwy : wy < 2) (Hs : Heap) : Met l yX2_tell (wC yX2_tell cX2_tell 5 none) (cRm S 5 151) (cPc G S Hs [.ref (ga G 3), .int t, .int (nI wy), .ref (ga G 7)]) (cQv G S Hs (fun u => AW [19, 20, 21, 22] [201, 300] S u ∧ (∃ sm, TK u 201 0 sm))) (CC - PT S) (12 * (CC - PT S)) (cA G S Hs.size) := by
  refine Met.ofW (cc := cX2_tell) (maxL := 5) (ret := none) (by decide) rfl ?_
  intro p e s m args below meth c s₁ B hml hv
  obtain ⟨rfl, hsz, hP, hK, hD0, -⟩ := hv
  have hx := B.exec
  have hb := B.bytes
  have hr := B.returns
  have htu : ∀ w ∈ CU, w.before _ s = true := fun w h => atoms_spec (ws := (wC yX2_tell cX2_tell 5 none)) B.pre w (List.mem_cons_of_mem _ h)
  have hown : s.vm.findClass RX2 = some m.cls := findClass_of_methodNamed B.named
  have hlocks := B.notSynchronized
  subst hsz
  have hD : cD (cA G S s.heap.size) G S := cD_self hD0
  have hl := lv_entry ([.ref (ga G 3), .int t, .int (nI wy), .ref (ga G 7)]) (n := 5) (Nat.le_of_ble_eq_true rfl)
  rw [lg_entry_eq]
  generalize (lg_sl ([.ref (ga G 3), .int t, .int (nI wy), .ref (ga G 7)]) ++ List.replicate (5 - (lg_sl ([.ref (ga G 3), .int t, .int (nI wy), .ref (ga G 7)])).length) Slot.unset).toArray = ls at hl ⊢
  have hl : lv_has ls 5 [(0, .ref (ga G 3)), (1, .int t), (2, .int (nI wy)), (3, .ref (ga G 7))] := hl
  obtain ⟨H, hHe⟩ : ∃ H : Heap, H = s.heap := ⟨_, rfl⟩
  rw [← hHe] at hP
  have hS : va_S (cA G S s.heap.size) s.heap H [] := by rw [hHe]; exact va_S.rf
  have hh : HS S S := HS.rf
  have hpp : PT S ≤ PT S := Nat.le_refl _
  have hB9 := hC.1
  refine W.heq hHe ?_
  refine c_ent (S := S) ?_
  refine lv_aload_n hx hb dX2_tell_0 rfl (lv_at hl 0 rfl) ?_
  refine lv_aload_n hx hb dX2_tell_1 rfl (lv_at hl 3 rfl) ?_
  refine c_putT (x := (ga G 7)) hx hb htu hown hK hP hD hS (htu _ C_127) dX2_tell_2 (fun H locs hP hD hS => ?_)
  have S_1h : HS S (cT S (ga G 7)) := hh
  have S_1c : CL (cT S (ga G 7)) := hC
  have S_1p : PT S ≤ PT (cT S (ga G 7)) := hpp
  refine c_eq (S1 := S) (S2 := cT S (ga G 7)) rfl ?_
  have S_1w : AW [19, 20, 21, 22] [201, 300] S (cT S (ga G 7)) := (AW.t AW.rf (by decide))
  have hh := S_1h
  have hC := S_1c
  have hpp := S_1p
  have tyT : TY (cT S (ga G 7)) T V VP X Y Z := hY
  refine lv_aload_n hx hb dX2_tell_5 rfl (lv_at hl 0 rfl) ?_
  refine va_get (D := gD G) (ci := 2) (v := .ref (ga G 7)) (C := RX2) (T := TX2) (N := 6) hx hb htu cu_in2 hown hK hP 3 cw_3 rfl 5 (by decide) (htu _ C_127) (fun _ h9 => h9) (c_hv rfl) dX2_tell_6 ?_
  have hC0 := hC
  refine c_cv (c_runV (As := []) (rest := []) (q0 := 7) (ci := 1) ⟨hx, hb, hml, hown, htu⟩ (s_clear_7 l G (cT S (ga G 7))  hC  H) (cwV 0 htu hU_X2_43 rfl rfl rfl (by decide +kernel) ⟨Nat.le_of_ble_eq_true rfl, Nat.le_of_ble_eq_true rfl⟩) hP hK hD hC hpp cw_7 rfl rfl hl.1 rfl (lv_room (Nat.le_of_ble_eq_true rfl)) dX2_tell_9) hS hD hh hpp (fun S_3 H locs hw_4 hP hD hS hC hh hs_5 hpp => ?_)
  try dsimp only at hw_4
  have aw_6 : AW [] [201] (cT S (ga G 7)) S_3 := hw_4.1
  have aw_6t : AW [19, 20, 21, 22] [201, 300] S S_3 := S_1w.tr (aw_6.mono (by decide) (by decide))
  have kk_7 : kK S_3 19 = 0 := (aw_6.2.1 19 (lt35 (by decide)) (by decide)).2.trans h19
  have kk_8 : kK S_3 20 = 0 := (aw_6.2.1 20 (lt35 (by decide)) (by decide)).2.trans h20
  have kk_9 : kK S_3 21 = 0 := (aw_6.2.1 21 (lt35 (by decide)) (by decide)).2.trans h21
  have ty_10 := TY.aw tyT aw_6 (by decide)
  have tk_11 : TK S_3 201 0 0 := ⟨⟨kk_7, kk_8, kk_9⟩, hw_4.2, by decide, Nat.le_refl _, fun j hj => absurd hj (Nat.not_lt_zero _)⟩
  refine lv_aload_n hx hb dX2_tell_12 rfl (lv_at hl 0 rfl) ?_
  refine lv_iload_n hx hb dX2_tell_13 rfl (lv_at hl 1 rfl) ?_
  refine lv_iload_n hx hb dX2_tell_14 rfl (lv_at hl 2 rfl) ?_
  have hC0 := hC
  refine c_cv (c_runV (As := [.int t, .int (nI wy)]) (rest := []) (q0 := 3) (ci := 2) ⟨hx, hb, hml, hown, htu⟩ (l_begin_7 l G S_3 T V VP X Y Z 0 0 wy t hC ty_10 hVP (((aw_6.2.2.1 (by decide)).trans rfl)) tk_11 ((Or.inl (by decide))) hwy H) (cwV 2 htu hU_X2_46 rfl rfl rfl (by decide +kernel) ⟨Nat.le_of_ble_eq_true rfl, Nat.le_of_ble_eq_true rfl⟩) hP hK hD hC hpp cw_3 rfl rfl hl.1 rfl (lv_room (Nat.le_of_ble_eq_true rfl)) dX2_tell_15) hS hD hh hpp (fun S_13 H locs hw_14 hP hD hS hC hh hs_15 hpp => ?_)
  try dsimp only at hw_14
  have aw_16 : AW [19, 20, 21, 22] [201] S_3 S_13 := hw_14.1
  have aw_16t : AW [19, 20, 21, 22] [201, 300] S S_13 := aw_6t.tr (aw_16.mono (by decide) (by decide))
  have ty_17 := TY.aw ty_10 aw_16 (by decide)
  obtain ⟨bg_18O, bg_18m, bg_18, bg_181, bg_182, bg_183⟩ := hw_14.2
  refine lv_iconst (v := 0) hx hb dX2_tell_18 (by decide) ?_
  refine lv_istore (lv' := [(4, .int 0), (0, .ref (ga G 3)), (1, .int t), (2, .int (nI wy)), (3, .ref (ga G 7))]) hx hb dX2_tell_19 hl (by decide) rfl (fun ls hl => ?_)
  refine w_loop (fun j H locs k sl g => ∃ (S1 : cS) (O1 : Nat) (sm : Nat) (i : Nat) (ls : Array Slot), CL S1 ∧ HS S S1 ∧ PT S ≤ PT S1 ∧ AW [19, 20, 21, 22] [201, 300] S S1 ∧ i + j = 804 ∧ TK S1 201 O1 sm ∧ 2 * (400 - sm) + O1 ≤ j ∧ kT S1 = ga G 7 ∧ TY S1 T V VP X Y Z ∧ k = PT S1 - PT S ∧ sl = 12 * (PT S1 - PT S) ∧ cP G S1 H ∧ cD (cA G S s.heap.size) G S1 ∧ va_S (cA G S s.heap.size) s.heap H locs ∧ lv_has ls 5 [(0, .ref (ga G 3)), (1, .int t), (2, .int (nI wy)), (3, .ref (ga G 7)), (4, .int (nI i))] ∧ g = F0 m 21 ls []) ?_ ?_ 804 _ _ _ _ _ ⟨S_13, bg_18O, bg_18m, 0, ls, hC, hh, hpp, aw_16t, by omega, bg_18, by omega, ((aw_16.2.2.1 (by decide)).trans ((aw_6.2.2.1 (by decide)).trans rfl)), ty_17, rfl, rfl, hP, hD, hS, lv_sub hl [1, 2, 3, 4, 0] rfl, rfl⟩
  · intro H locs k sl g hI
    obtain ⟨S1, O1, sm, i, ls, hC, hh, hpp, hAW, hp0, hp1, hp2, hp3, hp4, rfl, rfl, hP, hD, hS, hl, rfl⟩ := hI
    have hcap9 := hp1.2.2.1
    have hos9 := hp1.2.2.2.1
    refine lv_iload hx hb dX2_tell_21 (lv_at hl 4 rfl) ?_
    refine lv_ldc (v := 1000000) hx hb hown (htu _ C_449) dX2_tell_23 ?_
    refine lv_icmp_ge (tgt := 65) hx hb dX2_tell_25 (by decide) (fun c_19 => absurd c_19 (fun h => by have h2 := (nI_leI (a := 1000000) (b := i) (by omega) (by omega)).mp h; omega)) (fun c_19 => ?_)
    refine lv_aload_n hx hb dX2_tell_28 rfl (lv_at hl 0 rfl) ?_
    refine va_get (D := gD G) (ci := 2) (v := .ref (kH S 19)) (C := RX2) (T := TX2) (N := 6) hx hb htu cu_in2 hown hK hP 3 cw_3 rfl 1 (by decide) (htu _ C_122) (fun _ h9 => h9) (c_hv (hh.2 19 (lt35 (by decide)))) dX2_tell_29 ?_
    refine va_get (D := gD G) (ci := 0) (v := .int (nI O1)) (C := RX0) (T := TX0) (N := 2) hx hb htu cu_in0 hown hK hP (2 * 19 + 13) (c_hd (hh.2 19 (lt35 (by decide))) (cw_row (lt35 (by decide)))) rfl 1 (by decide) (htu _ C_450) (fun _ h9 => h9) (m_v (congrArg nI hp1.1.1)) dX2_tell_32 ?_
    refine lv_if_le (tgt := 65) hx hb dX2_tell_35 (by decide) (fun c_20 => ?_) (fun c_20 => absurd (by rw [show O1 = 0 by omega]; decide) c_20)
    exact c_vret hx hb hr hK hP hD hS hC hh hpp ⟨hAW, ⟨sm, (show O1 = 0 by omega) ▸ hp1⟩⟩ dX2_tell_65 hlocks
  · intro j ih9 H locs k sl g hI
    obtain ⟨S1, O1, sm, i, ls, hC, hh, hpp, hAW, hp0, hp1, hp2, hp3, hp4, rfl, rfl, hP, hD, hS, hl, rfl⟩ := hI
    have hcap9 := hp1.2.2.1
    have hos9 := hp1.2.2.2.1
    refine lv_iload hx hb dX2_tell_21 (lv_at hl 4 rfl) ?_
    refine lv_ldc (v := 1000000) hx hb hown (htu _ C_449) dX2_tell_23 ?_
    refine lv_icmp_ge (tgt := 65) hx hb dX2_tell_25 (by decide) (fun c_21 => absurd c_21 (fun h => by have h2 := (nI_leI (a := 1000000) (b := i) (by omega) (by omega)).mp h; omega)) (fun c_21 => ?_)
    refine lv_aload_n hx hb dX2_tell_28 rfl (lv_at hl 0 rfl) ?_
    refine va_get (D := gD G) (ci := 2) (v := .ref (kH S 19)) (C := RX2) (T := TX2) (N := 6) hx hb htu cu_in2 hown hK hP 3 cw_3 rfl 1 (by decide) (htu _ C_122) (fun _ h9 => h9) (c_hv (hh.2 19 (lt35 (by decide)))) dX2_tell_29 ?_
    refine va_get (D := gD G) (ci := 0) (v := .int (nI O1)) (C := RX0) (T := TX0) (N := 2) hx hb htu cu_in0 hown hK hP (2 * 19 + 13) (c_hd (hh.2 19 (lt35 (by decide))) (cw_row (lt35 (by decide)))) rfl 1 (by decide) (htu _ C_450) (fun _ h9 => h9) (m_v (congrArg nI hp1.1.1)) dX2_tell_32 ?_
    refine lv_if_le (tgt := 65) hx hb dX2_tell_35 (by decide) (fun c_22 => ?_) (fun c_22 => ?_)
    · skip
      have nc_22 : O1 ≤ 0 := (nI_leI (a := O1) (b := 0) (by omega) (by omega)).mp c_22
      exact c_vret hx hb hr hK hP hD hS hC hh hpp ⟨hAW, ⟨sm, (show O1 = 0 by omega) ▸ hp1⟩⟩ dX2_tell_65 hlocks
    · skip
      have nc_22 : ¬ O1 ≤ 0 := fun h9 => c_22 ((nI_leI (a := O1) (b := 0) (by omega) (by omega)).mpr h9)
      refine lv_aload_n hx hb dX2_tell_38 rfl (lv_at hl 0 rfl) ?_
      refine va_get (D := gD G) (ci := 2) (v := .ref (ga G 7)) (C := RX2) (T := TX2) (N := 6) hx hb htu cu_in2 hown hK hP 3 cw_3 rfl 5 (by decide) (htu _ C_127) (fun _ h9 => h9) (c_hv hp3) dX2_tell_39 ?_
      have hC0 := hC
      refine c_ci (c_runV (As := []) (rest := []) (q0 := 7) (ci := 1) ⟨hx, hb, hml, hown, htu⟩ (s_isFull_7 l G S1 sm hC hp1.2.1 hp1.2.2.1 H) (cwV 0 htu hU_X2_55 rfl rfl rfl (by decide +kernel) ⟨Nat.le_of_ble_eq_true rfl, Nat.le_of_ble_eq_true rfl⟩) hP hK hD hC hpp cw_7 rfl rfl hl.1 rfl (lv_room (Nat.le_of_ble_eq_true rfl)) dX2_tell_42) hS hD hh hpp (fun r_23 S_24 H locs hw_25 hP hD hS hC hh hs_26 hpp => ?_)
      obtain ⟨-, hu9, hw_25⟩ := hw_25
      have hu9 := hu9.symm
      subst hu9
      obtain ⟨o1, eO⟩ : ∃ o1, O1 = o1 + 1 := ⟨O1 - 1, by omega⟩
      subst eO
      rcases hw_25 with ⟨fu_27, fu_27l⟩ | ⟨fu_27, fu_27l⟩
      · skip
        subst fu_27
        refine lv_if_eq (tgt := 55) hx hb dX2_tell_45 (by decide) (fun c_28 => absurd c_28 (by decide)) (fun c_28 => ?_)
        refine lv_aload_n hx hb dX2_tell_48 rfl (lv_at hl 0 rfl) ?_
        have hC0 := hC
        refine c_cv (c_runV (As := []) (rest := []) (q0 := 3) (ci := 2) ⟨hx, hb, hml, hown, htu⟩ (l_close_7 l G S1 T V VP X Y Z o1 sm hC hp4 hp1 H) (cwV 0 htu hU_X2_59 rfl rfl rfl (by decide +kernel) ⟨Nat.le_of_ble_eq_true rfl, Nat.le_of_ble_eq_true rfl⟩) hP hK hD hC hpp cw_3 rfl rfl hl.1 rfl (lv_room (Nat.le_of_ble_eq_true rfl)) dX2_tell_49) hS hD hh hpp (fun S_30 H locs hw_31 hP hD hS hC hh hs_32 hpp => ?_)
        try dsimp only at hw_31
        have aw_33 : AW [19, 20, 21, 22] [] S1 S_30 := hw_31.1
        have aw_33t : AW [19, 20, 21, 22] [201, 300] S S_30 := hAW.tr (aw_33.mono (by decide) (by decide))
        have ii_34 : S_30.1 201 = nI sm := (aw_33.1 201 (by decide)).trans hp1.2.1
        have ty_35 := TY.aw hp4 aw_33 (by decide)
        refine lv_goto (tgt := 59) hx hb dX2_tell_52 (by decide) ?_
        refine lv_iinc (v := nI (i + 1)) (lv' := [(4, .int (nI (i + 1))), (0, .ref (ga G 3)), (1, .int t), (2, .int (nI wy)), (3, .ref (ga G 7))]) hx hb dX2_tell_59 hl (k := 4) rfl (nI_1 i) (by decide) rfl (fun ls hl => ?_)
        refine lv_goto (tgt := 21) hx hb dX2_tell_62 (by decide) ?_
        exact ih9 _ _ _ _ _ ⟨S_30, o1, sm, i + 1, ls, hC, hh, hpp, aw_33t, by omega, hw_31.2, by omega, ((aw_33.2.2.1 (by decide)).trans hp3), ty_35, rfl, rfl, hP, hD, hS, lv_sub hl [1, 2, 3, 4, 0] rfl, rfl⟩
      · skip
        subst fu_27
        refine lv_if_eq (tgt := 55) hx hb dX2_tell_45 (by decide) (fun c_36 => ?_) (fun c_36 => absurd (by decide) c_36)
        refine lv_aload_n hx hb dX2_tell_55 rfl (lv_at hl 0 rfl) ?_
        have hC0 := hC
        refine c_cv (c_runV (As := []) (rest := []) (q0 := 3) (ci := 2) ⟨hx, hb, hml, hown, htu⟩ (l_goOn_7 l G S1 T V VP X Y Z o1 sm hC hp4 hVP hp3 hp1 ((by omega)) H) (cwV 0 htu hU_X2_62 rfl rfl rfl (by decide +kernel) ⟨Nat.le_of_ble_eq_true rfl, Nat.le_of_ble_eq_true rfl⟩) hP hK hD hC hpp cw_3 rfl rfl hl.1 rfl (lv_room (Nat.le_of_ble_eq_true rfl)) dX2_tell_56) hS hD hh hpp (fun S_38 H locs hw_39 hP hD hS hC hh hs_40 hpp => ?_)
        try dsimp only at hw_39
        have aw_41 : AW [19, 20, 21, 22] [201] S1 S_38 := hw_39.1
        have aw_41t : AW [19, 20, 21, 22] [201, 300] S S_38 := hAW.tr (aw_41.mono (by decide) (by decide))
        have ty_42 := TY.aw hp4 aw_41 (by decide)
        obtain ⟨go_43O, go_43m, go_43, go_431⟩ := hw_39.2
        refine lv_iinc (v := nI (i + 1)) (lv' := [(4, .int (nI (i + 1))), (0, .ref (ga G 3)), (1, .int t), (2, .int (nI wy)), (3, .ref (ga G 7))]) hx hb dX2_tell_59 hl (k := 4) rfl (nI_1 i) (by decide) rfl (fun ls hl => ?_)
        refine lv_goto (tgt := 21) hx hb dX2_tell_62 (by decide) ?_
        exact ih9 _ _ _ _ _ ⟨S_38, go_43O, go_43m, i + 1, ls, hC, hh, hpp, aw_41t, by omega, go_43, by omega, ((aw_41.2.2.1 (by decide)).trans hp3), ty_42, rfl, rfl, hP, hD, hS, lv_sub hl [1, 2, 3, 4, 0] rfl, rfl⟩

