set_option maxHeartbeats 4000000 in
set_option maxRecDepth 100000 in
/-- field -/
theorem xw_field (l : Launch) (G : cG) (S : cS) (N : Nat) (x : Int32) (y : Int32) (w9 : Int32) (hC : CL S) (hT : TI S N) (Hs : Heap) : Met l yX7_field (wC yX7_field cX7_field 4 (some .int)) (cRm S 6 168) (cPc G S Hs [.ref (ga G 0), .int x, .int y, .int w9]) (cQi G S Hs (fun v u => AW [2, 3, 4, 5, 6, 7, 8, 9, 16, 14, 10, 11, 12, 13, 17, 18] [12, 13, 14] S u ∧ ((v = -1 ∧ u = S ∧ ¬ FOK S N x y w9) ∨ (FOK S N x y w9 ∧ (¬ rget (kF S 0) N x = 5 ∨ ¬ t_hasL (kF S 3) (kF S 5) N x y = 0) ∧ v = -4 ∧ u = S) ∨ (FOK S N x y w9 ∧ (rget (kF S 0) N x = 5 ∧ t_hasL (kF S 3) (kF S 5) N x y = 0) ∧ ¬ t_pc (kF S 3) N x < 6 ∧ v = -2 ∧ u = S) ∨ (FOK S N x y w9 ∧ (rget (kF S 0) N x = 5 ∧ t_hasL (kF S 3) (kF S 5) N x y = 0) ∧ t_pc (kF S 3) N x < 6 ∧ v = t_pc (kF u 3) N x ∧ FLD S u N x y w9 ∧ S0 u ∧ u.1 13 = -9)))) (CC - PT S) (12 * (CC - PT S)) (cA G S Hs.size) := by
  refine Met.ofW (cc := cX7_field) (maxL := 4) (ret := (some .int)) (by decide) rfl ?_
  intro p e s m args below meth c s₁ B hml hv
  obtain ⟨rfl, hsz, hP, hK, hD0, -⟩ := hv
  have hx := B.exec
  have hb := B.bytes
  have hr := B.returns
  have htu : ∀ w ∈ CU, w.before _ s = true := fun w h => atoms_spec (ws := (wC yX7_field cX7_field 4 (some .int))) B.pre w (List.mem_cons_of_mem _ h)
  have hown : s.vm.findClass RX7 = some m.cls := findClass_of_methodNamed B.named
  have hlocks := B.notSynchronized
  subst hsz
  have hD : cD (cA G S s.heap.size) G S := cD_self hD0
  have hl := lv_entry ([.ref (ga G 0), .int x, .int y, .int w9]) (n := 4) (Nat.le_of_ble_eq_true rfl)
  rw [lg_entry_eq]
  generalize (lg_sl ([.ref (ga G 0), .int x, .int y, .int w9]) ++ List.replicate (4 - (lg_sl ([.ref (ga G 0), .int x, .int y, .int w9])).length) Slot.unset).toArray = ls at hl ⊢
  have hl : lv_has ls 4 [(0, .ref (ga G 0)), (1, .int x), (2, .int y), (3, .int w9)] := hl
  obtain ⟨H, hHe⟩ : ∃ H : Heap, H = s.heap := ⟨_, rfl⟩
  rw [← hHe] at hP
  have hS : va_S (cA G S s.heap.size) s.heap H [] := by rw [hHe]; exact va_S.rf
  have hh : HS S S := HS.rf
  have hpp : PT S ≤ PT S := Nat.le_refl _
  have hB9 := hC.1
  refine W.heq hHe ?_
  refine c_ent (S := S) ?_
  refine lv_aload_n hx hb dX7_field_0 rfl (lv_at hl 0 rfl) ?_
  refine va_get (D := gD G) (ci := 7) (v := .ref (ga G 1)) (C := RX7) (T := TX7) (N := 4) hx hb htu cu_in7 hown hK hP 0 cw_0 rfl 0 (by decide) (htu _ C_7) (fun _ h9 => h9) rfl dX7_field_1 ?_
  refine lv_iload_n hx hb dX7_field_4 rfl (lv_at hl 1 rfl) ?_
  have hC0 := hC
  refine c_ci (c_runV (As := [.int x]) (rest := []) (q0 := 1) (ci := 3) ⟨hx, hb, hml, hown, htu⟩ (tt_isNode l G S N x hC hT H) (cwV 1 htu hU_X7_67 rfl rfl rfl (by decide +kernel) ⟨Nat.le_of_ble_eq_true rfl, Nat.le_of_ble_eq_true rfl⟩) hP hK hD hC hpp cw_1 rfl rfl hl.1 rfl (lv_room (Nat.le_of_ble_eq_true rfl)) dX7_field_5) hS hD hh hpp (fun r_1 S_2 H locs hw_3 hP hD hS hC hh hs_4 hpq => ?_)
  clear hpp
  have hpp := hpq
  clear hpq
  obtain ⟨-, hu9, hw_3⟩ := hw_3
  have hu9 := hu9.symm
  subst hu9
  refine lv_if_eq (tgt := 29) hx hb dX7_field_8 (by decide) (fun c_5 => ?_) (fun c_5 => ?_)
  · skip
    refine lv_iconst (v := (-1)) hx hb dX7_field_29 (by decide) ?_
    exact c_iret (v := (-1)) hx hb hr hK hP hD hS hC hh hpp ⟨AW.rf, (Or.inl ⟨rfl, rfl, fun h => h.1 (hw_3.symm.trans c_5)⟩)⟩ dX7_field_30 hlocks
  · skip
    refine lv_iload_n hx hb dX7_field_11 rfl (lv_at hl 2 rfl) ?_
    have hC0 := hC
    refine c_ci (c_runS (As := [.int y]) (rest := []) ⟨hx, hb, hml, hown, htu⟩ (z_isLetter l G S y hC  H) (va_cwS 1 htu hU_X7_70 rfl rfl rfl (by decide +kernel) ⟨Nat.le_of_ble_eq_true rfl, Nat.le_of_ble_eq_true rfl⟩) hP hK hD hC hpp rfl hl.1 rfl (lv_room (Nat.le_of_ble_eq_true rfl)) dX7_field_12) hS hD hh hpp (fun r_6 S_7 H locs hw_8 hP hD hS hC hh hs_9 hpq => ?_)
    clear hpp
    have hpp := hpq
    clear hpq
    obtain ⟨-, hu9, hw_8⟩ := hw_8
    have hu9 := hu9.symm
    subst hu9
    refine lv_if_eq (tgt := 29) hx hb dX7_field_15 (by decide) (fun c_10 => ?_) (fun c_10 => ?_)
    · skip
      refine lv_iconst (v := (-1)) hx hb dX7_field_29 (by decide) ?_
      exact c_iret (v := (-1)) hx hb hr hK hP hD hS hC hh hpp ⟨AW.rf, (Or.inl ⟨rfl, rfl, fun h => h.2.1 (hw_8.symm.trans c_10)⟩)⟩ dX7_field_30 hlocks
    · skip
      refine lv_aload_n hx hb dX7_field_18 rfl (lv_at hl 0 rfl) ?_
      refine va_get (D := gD G) (ci := 7) (v := .ref (ga G 1)) (C := RX7) (T := TX7) (N := 4) hx hb htu cu_in7 hown hK hP 0 cw_0 rfl 0 (by decide) (htu _ C_7) (fun _ h9 => h9) rfl dX7_field_19 ?_
      refine lv_iload_n hx hb dX7_field_22 rfl (lv_at hl 3 rfl) ?_
      have hC0 := hC
      refine c_ci (c_runV (As := [.int w9]) (rest := []) (q0 := 1) (ci := 3) ⟨hx, hb, hml, hown, htu⟩ (tt_isFree l G S N w9 hC hT H) (cwV 1 htu hU_X7_73 rfl rfl rfl (by decide +kernel) ⟨Nat.le_of_ble_eq_true rfl, Nat.le_of_ble_eq_true rfl⟩) hP hK hD hC hpp cw_1 rfl rfl hl.1 rfl (lv_room (Nat.le_of_ble_eq_true rfl)) dX7_field_23) hS hD hh hpp (fun r_11 S_12 H locs hw_13 hP hD hS hC hh hs_14 hpq => ?_)
      clear hpp
      have hpp := hpq
      clear hpq
      obtain ⟨-, hu9, hw_13⟩ := hw_13
      have hu9 := hu9.symm
      subst hu9
      refine lv_if_ne (tgt := 31) hx hb dX7_field_26 (by decide) (fun c_15 => ?_) (fun c_15 => ?_)
      · skip
        refine lv_aload_n hx hb dX7_field_31 rfl (lv_at hl 0 rfl) ?_
        refine va_get (D := gD G) (ci := 7) (v := .ref (ga G 1)) (C := RX7) (T := TX7) (N := 4) hx hb htu cu_in7 hown hK hP 0 cw_0 rfl 0 (by decide) (htu _ C_7) (fun _ h9 => h9) rfl dX7_field_32 ?_
        refine lv_iload_n hx hb dX7_field_35 rfl (lv_at hl 1 rfl) ?_
        have hC0 := hC
        refine c_ci (c_runV (As := [.int x]) (rest := []) (q0 := 1) (ci := 3) ⟨hx, hb, hml, hown, htu⟩ (tt_topOf l G S N x hC hT H) (cwV 1 htu hU_X7_76 rfl rfl rfl (by decide +kernel) ⟨Nat.le_of_ble_eq_true rfl, Nat.le_of_ble_eq_true rfl⟩) hP hK hD hC hpp cw_1 rfl rfl hl.1 rfl (lv_room (Nat.le_of_ble_eq_true rfl)) dX7_field_36) hS hD hh hpp (fun r_16 S_17 H locs hw_18 hP hD hS hC hh hs_19 hpq => ?_)
        clear hpp
        have hpp := hpq
        clear hpq
        obtain ⟨-, hu9, hw_18⟩ := hw_18
        have hu9 := hu9.symm
        subst hu9
        refine lv_iload_n hx hb dX7_field_39 rfl (lv_at hl 3 rfl) ?_
        refine lv_icmp_ne (tgt := 45) hx hb dX7_field_40 (by decide) (fun c_20 => ?_) (fun c_20 => ?_)
        · skip
          refine lv_aload_n hx hb dX7_field_45 rfl (lv_at hl 0 rfl) ?_
          refine va_get (D := gD G) (ci := 7) (v := .ref (ga G 1)) (C := RX7) (T := TX7) (N := 4) hx hb htu cu_in7 hown hK hP 0 cw_0 rfl 0 (by decide) (htu _ C_7) (fun _ h9 => h9) rfl dX7_field_46 ?_
          refine lv_iload_n hx hb dX7_field_49 rfl (lv_at hl 1 rfl) ?_
          have hC0 := hC
          refine c_ci (c_runV (As := [.int x]) (rest := []) (q0 := 1) (ci := 3) ⟨hx, hb, hml, hown, htu⟩ (tt_kindOf l G S N x hC hT H) (cwV 1 htu hU_X7_79 rfl rfl rfl (by decide +kernel) ⟨Nat.le_of_ble_eq_true rfl, Nat.le_of_ble_eq_true rfl⟩) hP hK hD hC hpp cw_1 rfl rfl hl.1 rfl (lv_room (Nat.le_of_ble_eq_true rfl)) dX7_field_50) hS hD hh hpp (fun r_21 S_22 H locs hw_23 hP hD hS hC hh hs_24 hpq => ?_)
          clear hpp
          have hpp := hpq
          clear hpq
          obtain ⟨-, hu9, hw_23⟩ := hw_23
          have hu9 := hu9.symm
          subst hu9
          refine lv_iconst (v := 5) hx hb dX7_field_53 (by decide) ?_
          refine lv_icmp_ne (tgt := 69) hx hb dX7_field_54 (by decide) (fun c_25 => ?_) (fun c_25 => ?_)
          · skip
            refine lv_bipush (v := (-4)) hx hb dX7_field_69 (by decide) ?_
            exact c_iret (v := (-4)) hx hb hr hK hP hD hS hC hh hpp ⟨AW.rf, (Or.inr (Or.inl ⟨⟨fun h => c_5 (hw_3.trans h), fun h => c_10 (hw_8.trans h), fun h => c_15 (hw_13.trans h), fun h => c_20 (hw_18.trans h)⟩, Or.inl (fun h => c_25 (hw_23.trans h)), rfl, rfl⟩))⟩ dX7_field_71 hlocks
          · skip
            refine lv_aload_n hx hb dX7_field_57 rfl (lv_at hl 0 rfl) ?_
            refine va_get (D := gD G) (ci := 7) (v := .ref (ga G 1)) (C := RX7) (T := TX7) (N := 4) hx hb htu cu_in7 hown hK hP 0 cw_0 rfl 0 (by decide) (htu _ C_7) (fun _ h9 => h9) rfl dX7_field_58 ?_
            refine lv_iload_n hx hb dX7_field_61 rfl (lv_at hl 1 rfl) ?_
            refine lv_iload_n hx hb dX7_field_62 rfl (lv_at hl 2 rfl) ?_
            have hC0 := hC
            refine c_ci (c_runV (As := [.int x, .int y]) (rest := []) (q0 := 1) (ci := 3) ⟨hx, hb, hml, hown, htu⟩ (tt_hasLabel l G S N x y hC hT H) (cwV 2 htu hU_X7_82 rfl rfl rfl (by decide +kernel) ⟨Nat.le_of_ble_eq_true rfl, Nat.le_of_ble_eq_true rfl⟩) hP hK hD hC hpp cw_1 rfl rfl hl.1 rfl (lv_room (Nat.le_of_ble_eq_true rfl)) dX7_field_63) hS hD hh hpp (fun r_26 S_27 H locs hw_28 hP hD hS hC hh hs_29 hpq => ?_)
            clear hpp
            have hpp := hpq
            clear hpq
            obtain ⟨-, hu9, hw_28⟩ := hw_28
            have hu9 := hu9.symm
            subst hu9
            refine lv_if_eq (tgt := 72) hx hb dX7_field_66 (by decide) (fun c_30 => ?_) (fun c_30 => ?_)
            · skip
              refine lv_aload_n hx hb dX7_field_72 rfl (lv_at hl 0 rfl) ?_
              refine va_get (D := gD G) (ci := 7) (v := .ref (ga G 1)) (C := RX7) (T := TX7) (N := 4) hx hb htu cu_in7 hown hK hP 0 cw_0 rfl 0 (by decide) (htu _ C_7) (fun _ h9 => h9) rfl dX7_field_73 ?_
              refine lv_iload_n hx hb dX7_field_76 rfl (lv_at hl 1 rfl) ?_
              have hC0 := hC
              refine c_ci (c_runV (As := [.int x]) (rest := []) (q0 := 1) (ci := 3) ⟨hx, hb, hml, hown, htu⟩ (tt_partCount l G S N x hC hT H) (cwV 1 htu hU_X7_85 rfl rfl rfl (by decide +kernel) ⟨Nat.le_of_ble_eq_true rfl, Nat.le_of_ble_eq_true rfl⟩) hP hK hD hC hpp cw_1 rfl rfl hl.1 rfl (lv_room (Nat.le_of_ble_eq_true rfl)) dX7_field_77) hS hD hh hpp (fun r_31 S_32 H locs hw_33 hP hD hS hC hh hs_34 hpq => ?_)
              clear hpp
              have hpp := hpq
              clear hpq
              obtain ⟨-, hu9, hw_33⟩ := hw_33
              have hu9 := hu9.symm
              subst hu9
              refine lv_bipush (v := 6) hx hb dX7_field_80 (by decide) ?_
              refine lv_icmp_lt (tgt := 88) hx hb dX7_field_82 (by decide) (fun c_35 => ?_) (fun c_35 => ?_)
              · skip
                refine lv_aload_n hx hb dX7_field_88 rfl (lv_at hl 0 rfl) ?_
                refine va_get (D := gD G) (ci := 7) (v := .ref (ga G 1)) (C := RX7) (T := TX7) (N := 4) hx hb htu cu_in7 hown hK hP 0 cw_0 rfl 0 (by decide) (htu _ C_7) (fun _ h9 => h9) rfl dX7_field_89 ?_
                refine lv_iload_n hx hb dX7_field_92 rfl (lv_at hl 1 rfl) ?_
                refine lv_iload_n hx hb dX7_field_93 rfl (lv_at hl 2 rfl) ?_
                refine lv_iload_n hx hb dX7_field_94 rfl (lv_at hl 3 rfl) ?_
                have hC0 := hC
                refine c_cv (c_runV (As := [.int x, .int y, .int w9]) (rest := []) (q0 := 1) (ci := 3) ⟨hx, hb, hml, hown, htu⟩ (tt_addPart l G S N x y w9 hC hT H) (cwV 3 htu hU_X7_88 rfl rfl rfl (by decide +kernel) ⟨Nat.le_of_ble_eq_true rfl, Nat.le_of_ble_eq_true rfl⟩) hP hK hD hC hpp cw_1 rfl rfl hl.1 rfl (lv_room (Nat.le_of_ble_eq_true rfl)) dX7_field_95) hS hD hh hpp (fun S_37 H locs hw_38 hP hD hS hC hh hs_39 hpq => ?_)
                clear hpp
                have hpp := hpq
                clear hpq
                try dsimp only at hw_38
                have aw_40 : AW [2, 3, 4, 5] [] S S_37 := hw_38.1
                have aw_40t : AW [2, 3, 4, 5, 6, 7, 8, 9, 16, 14, 10, 11, 12, 13, 17, 18] [12, 13, 14] S S_37 := AW.rf.tr (aw_40.mono (by decide) (by decide))
                have hap := hw_38.2
                have ti1 : TI S_37 N := by rw [hap]; exact hT
                refine lv_aload_n hx hb dX7_field_98 rfl (lv_at hl 0 rfl) ?_
                refine va_get (D := gD G) (ci := 7) (v := .ref (ga G 4)) (C := RX7) (T := TX7) (N := 4) hx hb htu cu_in7 hown hK hP 0 cw_0 rfl 1 (by decide) (htu _ C_11) (fun _ h9 => h9) rfl dX7_field_99 ?_
                have hC0 := hC
                refine c_cv (c_runV (As := []) (rest := []) (q0 := 4) (ci := 5) ⟨hx, hb, hml, hown, htu⟩ (x_forget l G S_37  hC  H) (cwV 0 htu hU_X7_92 rfl rfl rfl (by decide +kernel) ⟨Nat.le_of_ble_eq_true rfl, Nat.le_of_ble_eq_true rfl⟩) hP hK hD hC hpp cw_4 rfl rfl hl.1 rfl (lv_room (Nat.le_of_ble_eq_true rfl)) dX7_field_102) hS hD hh hpp (fun S_42 H locs hw_43 hP hD hS hC hh hs_44 hpq => ?_)
                clear hpp
                have hpp := hpq
                clear hpq
                try dsimp only at hw_43
                have aw_45 : AW [6, 7, 8, 9, 16, 14, 10, 11, 12, 13, 17, 18] [12, 13, 14] S_37 S_42 := hw_43.1
                have aw_45t : AW [2, 3, 4, 5, 6, 7, 8, 9, 16, 14, 10, 11, 12, 13, 17, 18] [12, 13, 14] S S_42 := aw_40t.tr (aw_45.mono (by decide) (by decide))
                obtain ⟨⟨fg_46, fg_46s⟩, fg_4612, fg_4613, fg_4614⟩ := hw_43.2
                have ti2 : TI S_42 N := TI.aw ti1 aw_45 (by decide)
                refine lv_aload_n hx hb dX7_field_105 rfl (lv_at hl 0 rfl) ?_
                refine va_get (D := gD G) (ci := 7) (v := .ref (ga G 1)) (C := RX7) (T := TX7) (N := 4) hx hb htu cu_in7 hown hK hP 0 cw_0 rfl 0 (by decide) (htu _ C_7) (fun _ h9 => h9) rfl dX7_field_106 ?_
                refine lv_iload_n hx hb dX7_field_109 rfl (lv_at hl 1 rfl) ?_
                have hC0 := hC
                refine c_ci (c_runV (As := [.int x]) (rest := []) (q0 := 1) (ci := 3) ⟨hx, hb, hml, hown, htu⟩ (tt_partCount l G S_42 N x hC ti2 H) (cwV 1 htu hU_X7_85 rfl rfl rfl (by decide +kernel) ⟨Nat.le_of_ble_eq_true rfl, Nat.le_of_ble_eq_true rfl⟩) hP hK hD hC hpp cw_1 rfl rfl hl.1 rfl (lv_room (Nat.le_of_ble_eq_true rfl)) dX7_field_110) hS hD hh hpp (fun r_47 S_48 H locs hw_49 hP hD hS hC hh hs_50 hpq => ?_)
                clear hpp
                have hpp := hpq
                clear hpq
                obtain ⟨-, hu9, hw_49⟩ := hw_49
                have hu9 := hu9.symm
                subst hu9
                exact c_iret (v := r_47) hx hb hr hK hP hD hS hC hh hpp ⟨aw_45t, (Or.inr (Or.inr (Or.inr ⟨⟨fun h => c_5 (hw_3.trans h), fun h => c_10 (hw_8.trans h), fun h => c_15 (hw_13.trans h), fun h => c_20 (hw_18.trans h)⟩, ⟨hw_23.symm.trans c_25, hw_28.symm.trans c_30⟩, (by rw [← hw_33]; exact c_35), hw_49, ⟨ti2, ((aw_45.2.1 0 (lt35 (by decide)) (by decide)).1.trans (by rw [hap, uT_0])), ((aw_45.2.1 1 (lt35 (by decide)) (by decide)).1.trans (by rw [hap, uT_1])), ((aw_45.2.1 2 (lt35 (by decide)) (by decide)).1.trans (by rw [hap, uT_2])), ((aw_45.2.1 3 (lt35 (by decide)) (by decide)).1.trans (by rw [hap, uT_3])), ((aw_45.2.1 4 (lt35 (by decide)) (by decide)).1.trans (by rw [hap, uT_4])), ((aw_45.2.1 5 (lt35 (by decide)) (by decide)).1.trans (by rw [hap, uT_5])), fg_46⟩, fg_46s, fg_4613⟩)))⟩ dX7_field_113 hlocks
              · skip
                refine lv_bipush (v := (-2)) hx hb dX7_field_85 (by decide) ?_
                exact c_iret (v := (-2)) hx hb hr hK hP hD hS hC hh hpp ⟨AW.rf, (Or.inr (Or.inr (Or.inl ⟨⟨fun h => c_5 (hw_3.trans h), fun h => c_10 (hw_8.trans h), fun h => c_15 (hw_13.trans h), fun h => c_20 (hw_18.trans h)⟩, ⟨hw_23.symm.trans c_25, hw_28.symm.trans c_30⟩, fun h => c_35 (by rw [hw_33]; exact h), rfl, rfl⟩)))⟩ dX7_field_87 hlocks
            · skip
              refine lv_bipush (v := (-4)) hx hb dX7_field_69 (by decide) ?_
              exact c_iret (v := (-4)) hx hb hr hK hP hD hS hC hh hpp ⟨AW.rf, (Or.inr (Or.inl ⟨⟨fun h => c_5 (hw_3.trans h), fun h => c_10 (hw_8.trans h), fun h => c_15 (hw_13.trans h), fun h => c_20 (hw_18.trans h)⟩, Or.inr (fun h => c_30 (hw_28.trans h)), rfl, rfl⟩))⟩ dX7_field_71 hlocks
        · skip
          refine lv_iconst (v := (-1)) hx hb dX7_field_43 (by decide) ?_
          exact c_iret (v := (-1)) hx hb hr hK hP hD hS hC hh hpp ⟨AW.rf, (Or.inl ⟨rfl, rfl, fun h => h.2.2.2 (hw_18.symm.trans c_20)⟩)⟩ dX7_field_44 hlocks
      · skip
        refine lv_iconst (v := (-1)) hx hb dX7_field_29 (by decide) ?_
        exact c_iret (v := (-1)) hx hb hr hK hP hD hS hC hh hpp ⟨AW.rf, (Or.inl ⟨rfl, rfl, fun h => h.2.2.1 (hw_13.symm.trans c_15)⟩)⟩ dX7_field_30 hlocks

