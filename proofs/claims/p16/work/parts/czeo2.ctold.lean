def x_tv (S : cS) (N : Nat) (x y : Int32) : Int32 := if rholds N x = 0 then -1 else if y < 0 then -1 else if 16 ≤ y then -1 else if y = 0 then rget (kF S 0) N x else if y = 1 then rget (kF S 1) N x else if y = 2 then t_pc (kF S 3) N x else if y = 3 then rget (kF S 2) N x else if y < 10 then t_part (kF S 3) (kF S 4) N x (y - 4) else t_part (kF S 3) (kF S 5) N x (y - 10)

set_option maxHeartbeats 4000000 in
set_option maxRecDepth 100000 in
/-- told -/
theorem x_told (l : Launch) (G : cG) (S : cS) (N : Nat) (x : Int32) (y : Int32) (hC : CL S) (hI : CI S N) (Hs : Heap) : Met l yX7_told (wC yX7_told cX7_told 3 (some .int)) (cRm S 2 43) (cPc G S Hs [.ref (ga G 0), .int x, .int y]) (cQi G S Hs (fun v u => AW [] [] S u ∧ (u = S ∧ v = x_tv S N x y))) (CC - PT S) (12 * (CC - PT S)) (cA G S Hs.size) := by
  refine Met.ofW (cc := cX7_told) (maxL := 3) (ret := (some .int)) (by decide) rfl ?_
  intro p e s m args below meth c s₁ B hml hv
  obtain ⟨rfl, hsz, hP, hK, hD0, -⟩ := hv
  have hx := B.exec
  have hb := B.bytes
  have hr := B.returns
  have htu : ∀ w ∈ CU, w.before _ s = true := fun w h => atoms_spec (ws := (wC yX7_told cX7_told 3 (some .int))) B.pre w (List.mem_cons_of_mem _ h)
  have hown : s.vm.findClass RX7 = some m.cls := findClass_of_methodNamed B.named
  have hlocks := B.notSynchronized
  subst hsz
  have hD : cD (cA G S s.heap.size) G S := cD_self hD0
  have hl := lv_entry ([.ref (ga G 0), .int x, .int y]) (n := 3) (Nat.le_of_ble_eq_true rfl)
  rw [lg_entry_eq]
  generalize (lg_sl ([.ref (ga G 0), .int x, .int y]) ++ List.replicate (3 - (lg_sl ([.ref (ga G 0), .int x, .int y])).length) Slot.unset).toArray = ls at hl ⊢
  have hl : lv_has ls 3 [(0, .ref (ga G 0)), (1, .int x), (2, .int y)] := hl
  obtain ⟨H, hHe⟩ : ∃ H : Heap, H = s.heap := ⟨_, rfl⟩
  rw [← hHe] at hP
  have hS : va_S (cA G S s.heap.size) s.heap H [] := by rw [hHe]; exact va_S.rf
  have hh : HS S S := HS.rf
  have hpp : PT S ≤ PT S := Nat.le_refl _
  have hB9 := hC.1
  refine W.heq hHe ?_
  refine c_ent (S := S) ?_
  obtain ⟨hT, ⟨T, V, X, Y, Z, hY⟩, ⟨h15, h19, h20, h21⟩, ⟨a0, h200, a0l⟩, ⟨a1, h201, a1l⟩, ⟨a2, h202, a2l⟩⟩ := id hI
  obtain ⟨tT, tV, tB, tX⟩ := id hY.2.1
  have hN := hT.1.1
  refine lv_aload_n hx hb dX7_told_0 rfl (lv_at hl 0 rfl) ?_
  refine va_get (D := gD G) (ci := 7) (v := .ref (ga G 1)) (C := RX7) (T := TX7) (N := 4) hx hb htu cu_in7 hown hK hP 0 cw_0 rfl 0 (by decide) (htu _ C_7) (fun _ h9 => h9) rfl dX7_told_1 ?_
  refine lv_iload_n hx hb dX7_told_4 rfl (lv_at hl 1 rfl) ?_
  have hC0 := hC
  refine c_ci (c_runV (As := [.int x]) (rest := []) (q0 := 1) (ci := 3) ⟨hx, hb, hml, hown, htu⟩ (tt_isNode l G S N x hC hT.1 H) (cwV 1 htu hU_X7_67 rfl rfl rfl (by decide +kernel) ⟨Nat.le_of_ble_eq_true rfl, Nat.le_of_ble_eq_true rfl⟩) hP hK hD hC hpp cw_1 rfl rfl hl.1 rfl (lv_room (Nat.le_of_ble_eq_true rfl)) dX7_told_5) hS hD hh hpp (fun r_1 S_2 H locs hw_3 hP hD hS hC hh hs_4 hpp => ?_)
  obtain ⟨-, hu9, hw_3⟩ := hw_3
  have hu9 := hu9.symm
  subst hu9
  refine lv_if_eq (tgt := 21) hx hb dX7_told_8 (by decide) (fun c_5 => ?_) (fun c_5 => ?_)
  · skip
    refine lv_iconst (v := (-1)) hx hb dX7_told_21 (by decide) ?_
    exact c_iret (v := (-1)) hx hb hr hK hP hD hS hC hh hpp ⟨AW.rf, ⟨rfl, by unfold x_tv; rw [if_pos (hw_3.symm.trans c_5)]⟩⟩ dX7_told_22 hlocks
  · skip
    refine lv_iload_n hx hb dX7_told_11 rfl (lv_at hl 2 rfl) ?_
    refine lv_if_lt (tgt := 21) hx hb dX7_told_12 (by decide) (fun c_6 => ?_) (fun c_6 => ?_)
    · skip
      refine lv_iconst (v := (-1)) hx hb dX7_told_21 (by decide) ?_
      exact c_iret (v := (-1)) hx hb hr hK hP hD hS hC hh hpp ⟨AW.rf, ⟨rfl, by unfold x_tv; rw [if_neg (fun h => c_5 (hw_3.trans h)), if_pos c_6]⟩⟩ dX7_told_22 hlocks
    · skip
      refine lv_iload_n hx hb dX7_told_15 rfl (lv_at hl 2 rfl) ?_
      refine lv_bipush (v := 16) hx hb dX7_told_16 (by decide) ?_
      refine lv_icmp_lt (tgt := 23) hx hb dX7_told_18 (by decide) (fun c_7 => ?_) (fun c_7 => ?_)
      · skip
        refine lv_iload_n hx hb dX7_told_23 rfl (lv_at hl 2 rfl) ?_
        rcases Decidable.em (y = 0) with c_8 | c_8
        · skip
          refine lv_tableIn (tgt := 56) hx hb dX7_told_24 (by rw [c_8]; decide) (by rw [c_8]; decide) (by rw [c_8]; rfl) (by decide) ?_
          refine lv_aload_n hx hb dX7_told_56 rfl (lv_at hl 0 rfl) ?_
          refine va_get (D := gD G) (ci := 7) (v := .ref (ga G 1)) (C := RX7) (T := TX7) (N := 4) hx hb htu cu_in7 hown hK hP 0 cw_0 rfl 0 (by decide) (htu _ C_7) (fun _ h9 => h9) rfl dX7_told_57 ?_
          refine lv_iload_n hx hb dX7_told_60 rfl (lv_at hl 1 rfl) ?_
          have hC0 := hC
          refine c_ci (c_runV (As := [.int x]) (rest := []) (q0 := 1) (ci := 3) ⟨hx, hb, hml, hown, htu⟩ (tt_kindOf l G S N x hC hT.1 H) (cwV 1 htu hU_X7_79 rfl rfl rfl (by decide +kernel) ⟨Nat.le_of_ble_eq_true rfl, Nat.le_of_ble_eq_true rfl⟩) hP hK hD hC hpp cw_1 rfl rfl hl.1 rfl (lv_room (Nat.le_of_ble_eq_true rfl)) dX7_told_61) hS hD hh hpp (fun r_9 S_10 H locs hw_11 hP hD hS hC hh hs_12 hpp => ?_)
          obtain ⟨-, hu9, hw_11⟩ := hw_11
          have hu9 := hu9.symm
          subst hu9
          exact c_iret (v := r_9) hx hb hr hK hP hD hS hC hh hpp ⟨AW.rf, ⟨rfl, by unfold x_tv; rw [if_neg (fun h => c_5 (hw_3.trans h)), if_neg c_6, if_neg (Int32.not_le.mpr c_7), if_pos c_8]; exact hw_11⟩⟩ dX7_told_64 hlocks
        rcases Decidable.em (y = 1) with c_13 | c_13
        · skip
          refine lv_tableIn (tgt := 65) hx hb dX7_told_24 (by rw [c_13]; decide) (by rw [c_13]; decide) (by rw [c_13]; rfl) (by decide) ?_
          refine lv_aload_n hx hb dX7_told_65 rfl (lv_at hl 0 rfl) ?_
          refine va_get (D := gD G) (ci := 7) (v := .ref (ga G 1)) (C := RX7) (T := TX7) (N := 4) hx hb htu cu_in7 hown hK hP 0 cw_0 rfl 0 (by decide) (htu _ C_7) (fun _ h9 => h9) rfl dX7_told_66 ?_
          refine lv_iload_n hx hb dX7_told_69 rfl (lv_at hl 1 rfl) ?_
          have hC0 := hC
          refine c_ci (c_runV (As := [.int x]) (rest := []) (q0 := 1) (ci := 3) ⟨hx, hb, hml, hown, htu⟩ (tt_markOf l G S N x hC hT.1 H) (cwV 1 htu hU_X7_95 rfl rfl rfl (by decide +kernel) ⟨Nat.le_of_ble_eq_true rfl, Nat.le_of_ble_eq_true rfl⟩) hP hK hD hC hpp cw_1 rfl rfl hl.1 rfl (lv_room (Nat.le_of_ble_eq_true rfl)) dX7_told_70) hS hD hh hpp (fun r_14 S_15 H locs hw_16 hP hD hS hC hh hs_17 hpp => ?_)
          obtain ⟨-, hu9, hw_16⟩ := hw_16
          have hu9 := hu9.symm
          subst hu9
          exact c_iret (v := r_14) hx hb hr hK hP hD hS hC hh hpp ⟨AW.rf, ⟨rfl, by unfold x_tv; rw [if_neg (fun h => c_5 (hw_3.trans h)), if_neg c_6, if_neg (Int32.not_le.mpr c_7), if_neg c_8, if_pos c_13]; exact hw_16⟩⟩ dX7_told_73 hlocks
        rcases Decidable.em (y = 2) with c_18 | c_18
        · skip
          refine lv_tableIn (tgt := 74) hx hb dX7_told_24 (by rw [c_18]; decide) (by rw [c_18]; decide) (by rw [c_18]; rfl) (by decide) ?_
          refine lv_aload_n hx hb dX7_told_74 rfl (lv_at hl 0 rfl) ?_
          refine va_get (D := gD G) (ci := 7) (v := .ref (ga G 1)) (C := RX7) (T := TX7) (N := 4) hx hb htu cu_in7 hown hK hP 0 cw_0 rfl 0 (by decide) (htu _ C_7) (fun _ h9 => h9) rfl dX7_told_75 ?_
          refine lv_iload_n hx hb dX7_told_78 rfl (lv_at hl 1 rfl) ?_
          have hC0 := hC
          refine c_ci (c_runV (As := [.int x]) (rest := []) (q0 := 1) (ci := 3) ⟨hx, hb, hml, hown, htu⟩ (tt_partCount l G S N x hC hT.1 H) (cwV 1 htu hU_X7_85 rfl rfl rfl (by decide +kernel) ⟨Nat.le_of_ble_eq_true rfl, Nat.le_of_ble_eq_true rfl⟩) hP hK hD hC hpp cw_1 rfl rfl hl.1 rfl (lv_room (Nat.le_of_ble_eq_true rfl)) dX7_told_79) hS hD hh hpp (fun r_19 S_20 H locs hw_21 hP hD hS hC hh hs_22 hpp => ?_)
          obtain ⟨-, hu9, hw_21⟩ := hw_21
          have hu9 := hu9.symm
          subst hu9
          exact c_iret (v := r_19) hx hb hr hK hP hD hS hC hh hpp ⟨AW.rf, ⟨rfl, by unfold x_tv; rw [if_neg (fun h => c_5 (hw_3.trans h)), if_neg c_6, if_neg (Int32.not_le.mpr c_7), if_neg c_8, if_neg c_13, if_pos c_18]; exact hw_21⟩⟩ dX7_told_82 hlocks
        rcases Decidable.em (y = 3) with c_23 | c_23
        · skip
          refine lv_tableIn (tgt := 83) hx hb dX7_told_24 (by rw [c_23]; decide) (by rw [c_23]; decide) (by rw [c_23]; rfl) (by decide) ?_
          refine lv_aload_n hx hb dX7_told_83 rfl (lv_at hl 0 rfl) ?_
          refine va_get (D := gD G) (ci := 7) (v := .ref (ga G 1)) (C := RX7) (T := TX7) (N := 4) hx hb htu cu_in7 hown hK hP 0 cw_0 rfl 0 (by decide) (htu _ C_7) (fun _ h9 => h9) rfl dX7_told_84 ?_
          refine lv_iload_n hx hb dX7_told_87 rfl (lv_at hl 1 rfl) ?_
          have hC0 := hC
          refine c_ci (c_runV (As := [.int x]) (rest := []) (q0 := 1) (ci := 3) ⟨hx, hb, hml, hown, htu⟩ (tt_ownerOf l G S N x hC hT.1 H) (cwV 1 htu hU_X7_98 rfl rfl rfl (by decide +kernel) ⟨Nat.le_of_ble_eq_true rfl, Nat.le_of_ble_eq_true rfl⟩) hP hK hD hC hpp cw_1 rfl rfl hl.1 rfl (lv_room (Nat.le_of_ble_eq_true rfl)) dX7_told_88) hS hD hh hpp (fun r_24 S_25 H locs hw_26 hP hD hS hC hh hs_27 hpp => ?_)
          obtain ⟨-, hu9, hw_26⟩ := hw_26
          have hu9 := hu9.symm
          subst hu9
          exact c_iret (v := r_24) hx hb hr hK hP hD hS hC hh hpp ⟨AW.rf, ⟨rfl, by unfold x_tv; rw [if_neg (fun h => c_5 (hw_3.trans h)), if_neg c_6, if_neg (Int32.not_le.mpr c_7), if_neg c_8, if_neg c_13, if_neg c_18, if_pos c_23]; exact hw_26⟩⟩ dX7_told_91 hlocks
        have hout : (y).toInt < 0 ∨ 3 < (y).toInt := tb_out y 0 3 (fun z h1 h2 e => by
          rcases (show z = 0 ∨ z = 1 ∨ z = 2 ∨ z = 3 by omega) with rfl | rfl | rfl | rfl
          · exact c_8 (Int32.toInt_inj.mp (e.trans (by decide)))
          · exact c_13 (Int32.toInt_inj.mp (e.trans (by decide)))
          · exact c_18 (Int32.toInt_inj.mp (e.trans (by decide)))
          · exact c_23 (Int32.toInt_inj.mp (e.trans (by decide))))
        refine lv_tableOut (tgt := 92) hx hb dX7_told_24 hout (by decide) ?_
        refine lv_iload_n hx hb dX7_told_92 rfl (lv_at hl 2 rfl) ?_
        refine lv_bipush (v := 10) hx hb dX7_told_93 (by decide) ?_
        refine lv_icmp_ge (tgt := 110) hx hb dX7_told_95 (by decide) (fun c_28 => ?_) (fun c_28 => ?_)
        · skip
          refine lv_aload_n hx hb dX7_told_110 rfl (lv_at hl 0 rfl) ?_
          refine va_get (D := gD G) (ci := 7) (v := .ref (ga G 1)) (C := RX7) (T := TX7) (N := 4) hx hb htu cu_in7 hown hK hP 0 cw_0 rfl 0 (by decide) (htu _ C_7) (fun _ h9 => h9) rfl dX7_told_111 ?_
          refine lv_iload_n hx hb dX7_told_114 rfl (lv_at hl 1 rfl) ?_
          refine lv_iload_n hx hb dX7_told_115 rfl (lv_at hl 2 rfl) ?_
          refine lv_bipush (v := 10) hx hb dX7_told_116 (by decide) ?_
          refine lv_isub hx hb dX7_told_118 ?_
          refine m_top (y := y - 10) rfl ?_
          have hC0 := hC
          refine c_ci (c_runV (As := [.int x, .int (y - 10)]) (rest := []) (q0 := 1) (ci := 3) ⟨hx, hb, hml, hown, htu⟩ (tt_labelOf l G S N x (y - 10) hC hT.1 H) (cwV 2 htu hU_X7_105 rfl rfl rfl (by decide +kernel) ⟨Nat.le_of_ble_eq_true rfl, Nat.le_of_ble_eq_true rfl⟩) hP hK hD hC hpp cw_1 rfl rfl hl.1 rfl (lv_room (Nat.le_of_ble_eq_true rfl)) dX7_told_119) hS hD hh hpp (fun r_29 S_30 H locs hw_31 hP hD hS hC hh hs_32 hpp => ?_)
          obtain ⟨-, hu9, hw_31⟩ := hw_31
          have hu9 := hu9.symm
          subst hu9
          exact c_iret (v := r_29) hx hb hr hK hP hD hS hC hh hpp ⟨AW.rf, ⟨rfl, by unfold x_tv; rw [if_neg (fun h => c_5 (hw_3.trans h)), if_neg c_6, if_neg (Int32.not_le.mpr c_7), if_neg c_8, if_neg c_13, if_neg c_18, if_neg c_23, if_neg (Int32.not_lt.mpr c_28)]; exact hw_31⟩⟩ dX7_told_122 hlocks
        · skip
          refine lv_aload_n hx hb dX7_told_98 rfl (lv_at hl 0 rfl) ?_
          refine va_get (D := gD G) (ci := 7) (v := .ref (ga G 1)) (C := RX7) (T := TX7) (N := 4) hx hb htu cu_in7 hown hK hP 0 cw_0 rfl 0 (by decide) (htu _ C_7) (fun _ h9 => h9) rfl dX7_told_99 ?_
          refine lv_iload_n hx hb dX7_told_102 rfl (lv_at hl 1 rfl) ?_
          refine lv_iload_n hx hb dX7_told_103 rfl (lv_at hl 2 rfl) ?_
          refine lv_iconst (v := 4) hx hb dX7_told_104 (by decide) ?_
          refine lv_isub hx hb dX7_told_105 ?_
          refine m_top (y := y - 4) rfl ?_
          have hC0 := hC
          refine c_ci (c_runV (As := [.int x, .int (y - 4)]) (rest := []) (q0 := 1) (ci := 3) ⟨hx, hb, hml, hown, htu⟩ (tt_partOf l G S N x (y - 4) hC hT.1 H) (cwV 2 htu hU_X7_101 rfl rfl rfl (by decide +kernel) ⟨Nat.le_of_ble_eq_true rfl, Nat.le_of_ble_eq_true rfl⟩) hP hK hD hC hpp cw_1 rfl rfl hl.1 rfl (lv_room (Nat.le_of_ble_eq_true rfl)) dX7_told_106) hS hD hh hpp (fun r_33 S_34 H locs hw_35 hP hD hS hC hh hs_36 hpp => ?_)
          obtain ⟨-, hu9, hw_35⟩ := hw_35
          have hu9 := hu9.symm
          subst hu9
          exact c_iret (v := r_33) hx hb hr hK hP hD hS hC hh hpp ⟨AW.rf, ⟨rfl, by unfold x_tv; rw [if_neg (fun h => c_5 (hw_3.trans h)), if_neg c_6, if_neg (Int32.not_le.mpr c_7), if_neg c_8, if_neg c_13, if_neg c_18, if_neg c_23, if_pos (Int32.not_le.mp c_28)]; exact hw_35⟩⟩ dX7_told_109 hlocks
      · skip
        refine lv_iconst (v := (-1)) hx hb dX7_told_21 (by decide) ?_
        exact c_iret (v := (-1)) hx hb hr hK hP hD hS hC hh hpp ⟨AW.rf, ⟨rfl, by unfold x_tv; rw [if_neg (fun h => c_5 (hw_3.trans h)), if_neg c_6, if_pos (Int32.not_lt.mp c_7)]⟩⟩ dX7_told_22 hlocks

