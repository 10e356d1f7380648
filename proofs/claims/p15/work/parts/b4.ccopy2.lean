set_option maxHeartbeats 4000000 in
set_option maxRecDepth 100000 in
/-- copied, way 2 -/
theorem g_copied_s2 (l : Launch) (G : cG) (S : cS) (fu : Nat) (T : Nat) (V : Nat) (X : Nat) (Y : Nat) (Z : Nat) (K : Nat) (dp : Nat) (t : Int32) (hC : CL S) (ih : cCopiedAt fu) (hY : TY S T V V X Y Z) (hBD : ∀ j, j < 2 * V → kK S (35 + j) ≤ K + V) (hKK : K ≤ 1501) (h15 : kK S 15 = 0) (hdp : dp + (fu + 1) = 61) (hY2 : Y + 6 * (fu + 1) ≤ 900) (hlev : 0 ≤ S.1 10) (hab : 2 ≠ 2 → 0 ≤ S.1 9) (Hs : Heap) : Met l yX5_copied (wC yX5_copied cX5_copied 12 (some .int)) (cRm S ((fu + 1) + 4) (42 * (fu + 1) + 140)) (cPc G S Hs [.ref (ga G 4), .int t, .int 2, .int (nI dp)]) (cQi G S Hs (fun v u => AW [6, 7, 8, 9, 16, 14, 10, 11, 12, 13, 25, 26, 35] [] S u ∧ (CX S u T V Y Z K 0 (fu + 1) v))) (CC - PT S) (12 * (CC - PT S)) (cA G S Hs.size) := by
  refine Met.ofW (cc := cX5_copied) (maxL := 12) (ret := (some .int)) (by decide) rfl ?_
  intro p e s m args below meth c s₁ B hml hv
  obtain ⟨rfl, hsz, hP, hK, hD0, -⟩ := hv
  have hx := B.exec
  have hb := B.bytes
  have hr := B.returns
  have htu : ∀ w ∈ CU, w.before _ s = true := fun w h => atoms_spec (ws := (wC yX5_copied cX5_copied 12 (some .int))) B.pre w (List.mem_cons_of_mem _ h)
  have hown : s.vm.findClass RX5 = some m.cls := findClass_of_methodNamed B.named
  have hlocks := B.notSynchronized
  subst hsz
  have hD : cD (cA G S s.heap.size) G S := cD_self hD0
  have hl := lv_entry ([.ref (ga G 4), .int t, .int 2, .int (nI dp)]) (n := 12) (Nat.le_of_ble_eq_true rfl)
  rw [lg_entry_eq]
  generalize (lg_sl ([.ref (ga G 4), .int t, .int 2, .int (nI dp)]) ++ List.replicate (12 - (lg_sl ([.ref (ga G 4), .int t, .int 2, .int (nI dp)])).length) Slot.unset).toArray = ls at hl ⊢
  have hl : lv_has ls 12 [(0, .ref (ga G 4)), (1, .int t), (2, .int 2), (3, .int (nI dp))] := hl
  obtain ⟨H, hHe⟩ : ∃ H : Heap, H = s.heap := ⟨_, rfl⟩
  rw [← hHe] at hP
  have hS : va_S (cA G S s.heap.size) s.heap H [] := by rw [hHe]; exact va_S.rf
  have hh : HS S S := HS.rf
  have hpp : PT S ≤ PT S := Nat.le_refl _
  have hB9 := hC.1
  refine W.heq hHe ?_
  refine c_ent (S := S) ?_
  obtain ⟨⟨k6, k7, k8, k9, k16, k14, k10, k11, k12, k13, k17, k18⟩, ⟨tT, tV, tB, tX⟩, tv, tr, ts⟩ := id hY
  have cr0 : CR S S T V K 0 T V X Y Z := CR.rf hY hBD
  skip
  refine lv_iload_n hx hb dX5_copied_0 rfl (lv_at hl 3 rfl) ?_
  refine lv_bipush (v := 60) hx hb dX5_copied_1 (by decide) ?_
  refine lv_icmp_le (tgt := 9) hx hb dX5_copied_3 (by decide) (fun c_1 => ?_) (fun c_1 => absurd ((nI_leI (a := dp) (b := 60) (by omega) (by omega)).mpr (by omega)) c_1)
  refine lv_aload_n hx hb dX5_copied_9 rfl (lv_at hl 0 rfl) ?_
  refine va_get (D := gD G) (ci := 5) (v := .ref (ga G 2)) (C := RX5) (T := TX5) (N := 15) hx hb htu cu_in5 hown hK hP 4 cw_4 rfl 1 (by decide) (htu _ C_45) (fun _ h9 => h9) rfl dX5_copied_10 ?_
  refine lv_iload_n hx hb dX5_copied_13 rfl (lv_at hl 1 rfl) ?_
  have hC0 := hC
  refine c_ci (c_runV (As := [.int t]) (rest := []) (q0 := 2) (ci := 4) ⟨hx, hb, hml, hown, htu⟩ (y_levelOf l G S t hC  H) (cwV 1 htu hU_X5_206 rfl rfl rfl (by decide +kernel) ⟨show 1 + 1 ≤ (fu + 1) + 4 by omega, show 8 + (2 + 11) + 21 ≤ 42 * (fu + 1) + 140 by omega⟩) hP hK hD hC hpp cw_2 rfl rfl hl.1 rfl (lv_room (Nat.le_of_ble_eq_true rfl)) dX5_copied_14) hS hD hh hpp (fun r_2 S_3 H locs hw_4 hP hD hS hC hh hs_5 hpp => ?_)
  obtain ⟨-, hu9, hw_4⟩ := hw_4
  have hu9 := hu9.symm
  subst hu9
  refine lv_aload_n hx hb dX5_copied_17 rfl (lv_at hl 0 rfl) ?_
  refine va_get (D := gD G) (ci := 5) (v := .int (S.1 9)) (C := RX5) (T := TX5) (N := 15) hx hb htu cu_in5 hown hK hP 4 cw_4 rfl 9 (by decide) (htu _ C_307) (fun _ h9 => h9) (m_v rfl) dX5_copied_18 ?_
  refine lv_icmp_gt (tgt := 26) hx hb dX5_copied_21 (by decide) (fun c_6 => ?_) (fun c_6 => ?_)
  · skip
    refine lv_aload_n hx hb dX5_copied_26 rfl (lv_at hl 0 rfl) ?_
    refine va_get (D := gD G) (ci := 5) (v := .ref (ga G 2)) (C := RX5) (T := TX5) (N := 15) hx hb htu cu_in5 hown hK hP 4 cw_4 rfl 1 (by decide) (htu _ C_45) (fun _ h9 => h9) rfl dX5_copied_27 ?_
    refine lv_iload_n hx hb dX5_copied_30 rfl (lv_at hl 1 rfl) ?_
    have hC0 := hC
    refine c_ci (c_runV (As := [.int t]) (rest := []) (q0 := 2) (ci := 4) ⟨hx, hb, hml, hown, htu⟩ (y_sortOf l G S t hC  H) (cwV 1 htu hU_X5_209 rfl rfl rfl (by decide +kernel) ⟨show 1 + 1 ≤ (fu + 1) + 4 by omega, show 8 + (2 + 11) + 21 ≤ 42 * (fu + 1) + 140 by omega⟩) hP hK hD hC hpp cw_2 rfl rfl hl.1 rfl (lv_room (Nat.le_of_ble_eq_true rfl)) dX5_copied_31) hS hD hh hpp (fun r_7 S_8 H locs hw_9 hP hD hS hC hh hs_10 hpp => ?_)
    obtain ⟨-, hu9, hw_9⟩ := hw_9
    have hu9 := hu9.symm
    subst hu9
    refine lv_istore (lv' := [(4, .int r_7), (0, .ref (ga G 4)), (1, .int t), (2, .int 2), (3, .int (nI dp))]) hx hb dX5_copied_34 hl (by decide) rfl (fun ls hl => ?_)
    refine lv_iload hx hb dX5_copied_36 (lv_at hl 0 rfl) ?_
    refine lv_iconst (v := 2) hx hb dX5_copied_38 (by decide) ?_
    refine lv_icmp_ne (tgt := 113) hx hb dX5_copied_39 (by decide) (fun c_11 => ?_) (fun c_11 => ?_)
    · skip
      refine lv_iload hx hb dX5_copied_113 (lv_at hl 0 rfl) ?_
      refine lv_iconst (v := 3) hx hb dX5_copied_115 (by decide) ?_
      refine lv_icmp_ne (tgt := 211) hx hb dX5_copied_116 (by decide) (fun c_12 => ?_) (fun c_12 => ?_)
      · skip
        refine lv_iconst (v := 2) hx hb dX5_copied_211 (by decide) ?_
        refine lv_aload_n hx hb dX5_copied_212 rfl (lv_at hl 1 rfl) ?_
        refine va_get (D := gD G) (ci := 5) (v := .ref (ga G 2)) (C := RX5) (T := TX5) (N := 15) hx hb htu cu_in5 hown hK hP 4 cw_4 rfl 1 (by decide) (htu _ C_45) (fun _ h9 => h9) rfl dX5_copied_213 ?_
        refine lv_iload_n hx hb dX5_copied_216 rfl (lv_at hl 2 rfl) ?_
        have hC0 := hC
        refine c_ci (c_runV (As := [.int t]) (rest := [.int 2]) (q0 := 2) (ci := 4) ⟨hx, hb, hml, hown, htu⟩ (y_numberOf l G S t hC  H) (cwV 1 htu hU_X5_224 rfl rfl rfl (by decide +kernel) ⟨show 1 + 1 ≤ (fu + 1) + 4 by omega, show 8 + (2 + 11) + 21 ≤ 42 * (fu + 1) + 140 by omega⟩) hP hK hD hC hpp cw_2 rfl rfl hl.1 rfl (lv_room (Nat.le_of_ble_eq_true rfl)) dX5_copied_217) hS hD hh hpp (fun r_13 S_14 H locs hw_15 hP hD hS hC hh hs_16 hpp => ?_)
        obtain ⟨-, hu9⟩ := hw_15
        have hu9 := hu9.symm
        subst hu9
        refine lv_imul hx hb dX5_copied_220 ?_
        refine m_top (y := 2 * r_13) rfl ?_
        refine lv_iload_n hx hb dX5_copied_221 rfl (lv_at hl 3 rfl) ?_
        refine lv_iconst (v := 1) hx hb dX5_copied_222 (by decide) ?_
        refine lv_icmp_ne (tgt := 230) hx hb dX5_copied_223 (by decide) (fun c_17 => ?_) (fun c_17 => absurd c_17 (by decide))
        refine lv_iconst (v := 0) hx hb dX5_copied_230 (by decide) ?_
        refine lv_iadd hx hb dX5_copied_231 ?_
        refine m_top (y := (2 * r_13) + 0) rfl ?_
        refine lv_istore (lv' := [(5, .int ((2 * r_13) + 0)), (4, .int r_7), (0, .ref (ga G 4)), (1, .int t), (2, .int 2), (3, .int (nI dp))]) hx hb dX5_copied_232 hl (by decide) rfl (fun ls hl => ?_)
        refine lv_aload_n hx hb dX5_copied_234 rfl (lv_at hl 2 rfl) ?_
        refine va_get (D := gD G) (ci := 5) (v := .ref (kH S 26)) (C := RX5) (T := TX5) (N := 15) hx hb htu cu_in5 hown hK hP 4 cw_4 rfl 7 (by decide) (htu _ C_56) (fun _ h9 => h9) rfl dX5_copied_235 ?_
        refine lv_iload hx hb dX5_copied_238 (lv_at hl 0 rfl) ?_
        have hC0 := hC
        refine c_ci (c_runV (As := [.int ((2 * r_13) + 0)]) (rest := []) (q0 := (2 * 26 + 13)) (ci := 0) ⟨hx, hb, hml, hown, htu⟩ (c_getA l G S 26 (lt35 (by decide)) hC (kH S 26) rfl ((2 * r_13) + 0) H) (cwV 1 htu hU_X5_124 rfl rfl rfl (by decide +kernel) ⟨show 0 + 1 ≤ (fu + 1) + 4 by omega, show 8 + (2 + 11) + 0 ≤ 42 * (fu + 1) + 140 by omega⟩) hP hK hD hC hpp (c_hd rfl (cw_row (lt35 (by decide)))) rfl rfl hl.1 rfl (lv_room (Nat.le_of_ble_eq_true rfl)) dX5_copied_240) hS hD hh hpp (fun r_18 S_19 H locs hw_20 hP hD hS hC hh hs_21 hpp => ?_)
        obtain ⟨hu9, hw_20⟩ := hw_20
        have hu9 := hu9.symm
        subst hu9
        refine lv_aload_n hx hb dX5_copied_243 rfl (lv_at hl 2 rfl) ?_
        refine va_get (D := gD G) (ci := 5) (v := .int (S.1 8)) (C := RX5) (T := TX5) (N := 15) hx hb htu cu_in5 hown hK hP 4 cw_4 rfl 8 (by decide) (htu _ C_306) (fun _ h9 => h9) rfl dX5_copied_244 ?_
        refine lv_icmp_ne (tgt := 260) hx hb dX5_copied_247 (by decide) (fun c_22 => ?_) (fun c_22 => ?_)
        · skip
          refine lv_aload_n hx hb dX5_copied_260 rfl (lv_at hl 2 rfl) ?_
          refine va_get (D := gD G) (ci := 5) (v := .ref (ga G 2)) (C := RX5) (T := TX5) (N := 15) hx hb htu cu_in5 hown hK hP 4 cw_4 rfl 1 (by decide) (htu _ C_45) (fun _ h9 => h9) rfl dX5_copied_261 ?_
          refine lv_aload_n hx hb dX5_copied_264 rfl (lv_at hl 2 rfl) ?_
          refine va_get (D := gD G) (ci := 5) (v := .int (S.1 10)) (C := RX5) (T := TX5) (N := 15) hx hb htu cu_in5 hown hK hP 4 cw_4 rfl 10 (by decide) (htu _ C_308) (fun _ h9 => h9) (m_v rfl) dX5_copied_265 ?_
          have hC0 := hC
          refine c_ci (c_runV (As := [.int (S.1 10)]) (rest := []) (q0 := 2) (ci := 4) ⟨hx, hb, hml, hown, htu⟩ (y_addVariable l G S T V V X Y Z (S.1 10) hC hY rfl hlev H) (cwV 1 htu hU_X5_137 rfl rfl rfl (by decide +kernel) ⟨show 4 + 1 ≤ (fu + 1) + 4 by omega, show 8 + (4 + 11) + 128 ≤ 42 * (fu + 1) + 140 by omega⟩) hP hK hD hC hpp cw_2 rfl rfl hl.1 rfl (lv_room (Nat.le_of_ble_eq_true rfl)) dX5_copied_268) hS hD hh hpp (fun r_23 S_24 H locs hw_25 hP hD hS hC hh hs_26 hpp => ?_)
          try dsimp only at hw_25
          have aw_27 : AW [6, 7, 8, 9, 16, 14, 35] [] S S_24 := hw_25.1
          have aw_27t : AW [6, 7, 8, 9, 16, 14, 10, 11, 12, 13, 25, 26, 35] [] S S_24 := AW.rf.tr (aw_27.mono (by decide) (by decide))
          have kk_28 : kK S_24 15 = 0 := (aw_27.2.1 15 (lt35 (by decide)) (by decide)).2.trans h15
          have ii_29 : S_24.1 9 = S.1 9 := (aw_27.1 9 (by decide)).trans rfl
          have ii_30 : S_24.1 10 = S.1 10 := (aw_27.1 10 (by decide)).trans rfl
          rcases hw_25.2 with ⟨ty_31v, ty_31s⟩ | ⟨ty_31v, ty_31t, ty_31, ty_31o, ty_314, ty_318, ty_31r⟩
          · skip
            subst ty_31v
            refine lv_istore (lv' := [(6, .int ((-6))), (5, .int ((2 * r_13) + 0)), (4, .int r_7), (0, .ref (ga G 4)), (1, .int t), (2, .int 2), (3, .int (nI dp))]) hx hb dX5_copied_271 hl (by decide) rfl (fun ls hl => ?_)
            refine lv_iload hx hb dX5_copied_273 (lv_at hl 0 rfl) ?_
            refine lv_if_ge (tgt := 281) hx hb dX5_copied_275 (by decide) (fun c_32 => absurd c_32 (by decide)) (fun c_32 => ?_)
            refine lv_iload hx hb dX5_copied_278 (lv_at hl 0 rfl) ?_
            exact c_iret (v := (-6)) hx hb hr hK hP hD hS hC hh hpp ⟨aw_27t, ⟨T, V, X, Y, (by rw [ty_31s]; exact cr0), by omega, by omega, fun h => absurd (by decide) h⟩⟩ dX5_copied_280 hlocks
          · skip
            subst ty_31v
            refine lv_istore (lv' := [(6, .int (nI T)), (5, .int ((2 * r_13) + 0)), (4, .int r_7), (0, .ref (ga G 4)), (1, .int t), (2, .int 2), (3, .int (nI dp))]) hx hb dX5_copied_271 hl (by decide) rfl (fun ls hl => ?_)
            refine lv_iload hx hb dX5_copied_273 (lv_at hl 0 rfl) ?_
            refine lv_if_ge (tgt := 281) hx hb dX5_copied_275 (by decide) (fun c_33 => ?_) (fun c_33 => absurd (Int32.not_lt.mp (nI_n0 (by omega))) c_33)
            obtain ⟨ty_31q, ty_31w, ty_31x, ty_31y⟩ := ty_31r
            refine lv_aload_n hx hb dX5_copied_281 rfl (lv_at hl 3 rfl) ?_
            refine va_get (D := gD G) (ci := 5) (v := .ref (kH S 25)) (C := RX5) (T := TX5) (N := 15) hx hb htu cu_in5 hown hK hP 4 cw_4 rfl 6 (by decide) (htu _ C_55) (fun _ h9 => h9) (c_hv (hh.2 25 (lt35 (by decide)))) dX5_copied_282 ?_
            refine lv_iload hx hb dX5_copied_285 (lv_at hl 1 rfl) ?_
            refine lv_iload hx hb dX5_copied_287 (lv_at hl 0 rfl) ?_
            have hC0 := hC
            refine c_cv (c_runV (As := [.int ((2 * r_13) + 0), .int (nI T)]) (rest := []) (q0 := (2 * 25 + 13)) (ci := 0) ⟨hx, hb, hml, hown, htu⟩ (c_setA l G S_24 25 (lt35 (by decide)) hC (kH S 25) (hh.2 25 (lt35 (by decide))) ((2 * r_13) + 0) (nI T) H) (cwV 2 htu hU_X5_134 rfl rfl rfl (by decide +kernel) ⟨show 0 + 1 ≤ (fu + 1) + 4 by omega, show 8 + (3 + 11) + 0 ≤ 42 * (fu + 1) + 140 by omega⟩) hP hK hD hC hpp (c_hd (hh.2 25 (lt35 (by decide))) (cw_row (lt35 (by decide)))) rfl rfl hl.1 rfl (lv_room (Nat.le_of_ble_eq_true rfl)) dX5_copied_289) hS hD hh hpp (fun S_35 H locs hw_36 hP hD hS hC hh hs_37 hpp => ?_)
            try dsimp only at hw_36
            have aw_38 : AW [25] [] S_24 S_35 := (by rw [hw_36]; exact AW.u (by decide))
            have aw_38t : AW [6, 7, 8, 9, 16, 14, 10, 11, 12, 13, 25, 26, 35] [] S S_35 := aw_27t.tr (aw_38.mono (by decide) (by decide))
            have kk_39 : kK S_35 15 = 0 := (aw_38.2.1 15 (lt35 (by decide)) (by decide)).2.trans kk_28
            have ii_40 : S_35.1 9 = S.1 9 := (aw_38.1 9 (by decide)).trans ii_29
            have ii_41 : S_35.1 10 = S.1 10 := (aw_38.1 10 (by decide)).trans ii_30
            have ty_42 := TY.aw ty_31 aw_38 (by decide)
            refine lv_aload_n hx hb dX5_copied_292 rfl (lv_at hl 3 rfl) ?_
            refine va_get (D := gD G) (ci := 5) (v := .ref (kH S 26)) (C := RX5) (T := TX5) (N := 15) hx hb htu cu_in5 hown hK hP 4 cw_4 rfl 7 (by decide) (htu _ C_56) (fun _ h9 => h9) (c_hv (hh.2 26 (lt35 (by decide)))) dX5_copied_293 ?_
            refine lv_iload hx hb dX5_copied_296 (lv_at hl 1 rfl) ?_
            refine lv_aload_n hx hb dX5_copied_298 rfl (lv_at hl 3 rfl) ?_
            refine va_get (D := gD G) (ci := 5) (v := .int (S_35.1 8)) (C := RX5) (T := TX5) (N := 15) hx hb htu cu_in5 hown hK hP 4 cw_4 rfl 8 (by decide) (htu _ C_306) (fun _ h9 => h9) rfl dX5_copied_299 ?_
            have hC0 := hC
            refine c_cv (c_runV (As := [.int ((2 * r_13) + 0), .int (S_35.1 8)]) (rest := []) (q0 := (2 * 26 + 13)) (ci := 0) ⟨hx, hb, hml, hown, htu⟩ (c_setA l G S_35 26 (lt35 (by decide)) hC (kH S 26) (hh.2 26 (lt35 (by decide))) ((2 * r_13) + 0) (S_35.1 8) H) (cwV 2 htu hU_X5_134 rfl rfl rfl (by decide +kernel) ⟨show 0 + 1 ≤ (fu + 1) + 4 by omega, show 8 + (3 + 11) + 0 ≤ 42 * (fu + 1) + 140 by omega⟩) hP hK hD hC hpp (c_hd (hh.2 26 (lt35 (by decide))) (cw_row (lt35 (by decide)))) rfl rfl hl.1 rfl (lv_room (Nat.le_of_ble_eq_true rfl)) dX5_copied_302) hS hD hh hpp (fun S_44 H locs hw_45 hP hD hS hC hh hs_46 hpp => ?_)
            try dsimp only at hw_45
            have aw_47 : AW [26] [] S_35 S_44 := (by rw [hw_45]; exact AW.u (by decide))
            have aw_47t : AW [6, 7, 8, 9, 16, 14, 10, 11, 12, 13, 25, 26, 35] [] S S_44 := aw_38t.tr (aw_47.mono (by decide) (by decide))
            have kk_48 : kK S_44 15 = 0 := (aw_47.2.1 15 (lt35 (by decide)) (by decide)).2.trans kk_39
            have ii_49 : S_44.1 9 = S.1 9 := (aw_47.1 9 (by decide)).trans ii_40
            have ii_50 : S_44.1 10 = S.1 10 := (aw_47.1 10 (by decide)).trans ii_41
            have ty_51 := TY.aw ty_42 aw_47 (by decide)
            refine lv_iload_n hx hb dX5_copied_305 rfl (lv_at hl 5 rfl) ?_
            refine lv_if_ne (tgt := 323) hx hb dX5_copied_306 (by decide) (fun c_52 => ?_) (fun c_52 => absurd c_52 (by decide))
            refine lv_iload_n hx hb dX5_copied_323 rfl (lv_at hl 5 rfl) ?_
            refine lv_iconst (v := 1) hx hb dX5_copied_324 (by decide) ?_
            refine lv_icmp_ne (tgt := 342) hx hb dX5_copied_325 (by decide) (fun c_53 => ?_) (fun c_53 => absurd c_53 (by decide))
            have z6 : OC S S_44 T := ((((ty_31o).tr (OC.aw (T := T) aw_38 (by decide)) (Nat.le_refl _))).tr (OC.aw (T := T) aw_47 (by decide)) (Nat.le_refl _))
            have zb : ∀ j, j < 2 * (V + 1) → kK S_44 (35 + j) = kK S_24 (35 + j) := fun j hj => ((aw_47.bnd (V := V + 1) (by decide) (Nat.le_trans ty_31.2.1.2.2.1 aw_38.2.2.2.1) (j) hj).trans ((aw_38.bnd (V := V + 1) (by decide) ty_31.2.1.2.2.1 (j) hj).trans rfl))
            have cr1 : CR S S_44 T V K 0 (T + 1) (V + 1) X Y Z := CR.var hBD ty_51 z6 (by decide) (fun j hj => by rw [zb j (by omega)]; exact Nat.le_of_eq (ty_31w j hj)) ((zb (2 * V) (by omega)).trans ty_31x) ((zb (2 * V + 1) (by omega)).trans ty_31y)
            have q6 : kF S_44 6 T = 4 := (by rw [(aw_47.2.1 6 (lt35 (by decide)) (by decide)).1]; exact (by rw [(aw_38.2.1 6 (lt35 (by decide)) (by decide)).1]; exact ty_314))
            have q8 : kF S_44 8 T = nI V := (by rw [(aw_47.2.1 8 (lt35 (by decide)) (by decide)).1]; exact (by rw [(aw_38.2.1 8 (lt35 (by decide)) (by decide)).1]; exact ty_318))
            have q0 : kK S_44 (35 + (2 * V + 0)) = 0 ∧ kK S_44 (35 + (2 * V + 1)) = 0 := ⟨(zb (2 * V) (by omega)).trans ty_31x, (zb (2 * V + 1) (by omega)).trans ty_31y⟩
            have tV1 : V + 1 ≤ 150 := ty_51.2.1.2.1
            have tT1 : T + 1 ≤ 602 := ty_51.2.1.1
            refine lv_iconst (v := 0) hx hb dX5_copied_342 (by decide) ?_
            refine lv_istore (lv' := [(7, .int 0), (6, .int (nI T)), (5, .int ((2 * r_13) + 0)), (4, .int r_7), (0, .ref (ga G 4)), (1, .int t), (2, .int 2), (3, .int (nI dp))]) hx hb dX5_copied_343 hl (by decide) rfl (fun ls hl => ?_)
            refine lv_iload hx hb dX5_copied_345 (lv_at hl 0 rfl) ?_
            refine lv_iconst (v := 1) hx hb dX5_copied_347 (by decide) ?_
            refine lv_icmp_gt (tgt := 445) hx hb dX5_copied_348 (by decide) (fun c_54 => absurd c_54 (by decide)) (fun c_54 => ?_)
            refine lv_iload hx hb dX5_copied_351 (lv_at hl 0 rfl) ?_
            refine lv_iload_n hx hb dX5_copied_353 rfl (lv_at hl 6 rfl) ?_
            have hC0 := hC
            refine c_ci (c_runS (As := [.int 0, .int 2]) (rest := []) ⟨hx, hb, hml, hown, htu⟩ (g_isTaken l G S_44 0 2 hC  H) (va_cwS 2 htu hU_X5_227 rfl rfl rfl (by decide +kernel) ⟨show 0 + 1 ≤ (fu + 1) + 4 by omega, show 8 + (2 + 11) + 0 ≤ 42 * (fu + 1) + 140 by omega⟩) hP hK hD hC hpp rfl hl.1 rfl (lv_room (Nat.le_of_ble_eq_true rfl)) dX5_copied_354) hS hD hh hpp (fun r_55 S_56 H locs hw_57 hP hD hS hC hh hs_58 hpp => ?_)
            obtain ⟨-, hu9, hw_57⟩ := hw_57
            have hu9 := hu9.symm
            subst hu9
            obtain rfl : r_55 = 1 := hw_57.trans (by decide)
            refine lv_if_ne (tgt := 363) hx hb dX5_copied_357 (by decide) (fun c_59 => ?_) (fun c_59 => absurd c_59 (by decide))
            refine lv_aload_n hx hb dX5_copied_363 rfl (lv_at hl 4 rfl) ?_
            refine va_get (D := gD G) (ci := 5) (v := .ref (ga G 2)) (C := RX5) (T := TX5) (N := 15) hx hb htu cu_in5 hown hK hP 4 cw_4 rfl 1 (by decide) (htu _ C_45) (fun _ h9 => h9) rfl dX5_copied_364 ?_
            refine lv_iload_n hx hb dX5_copied_367 rfl (lv_at hl 5 rfl) ?_
            refine lv_iload hx hb dX5_copied_368 (lv_at hl 0 rfl) ?_
            have hC0 := hC
            refine c_cr (c_runV (As := [.int t, .int 0]) (rest := []) (q0 := 2) (ci := 4) ⟨hx, hb, hml, hown, htu⟩ (y_boundsOf l G S_44 (T + 1) (V + 1) (V + 1) X Y Z t 0 hC ty_51 ((Nat.le_refl _)) ((by decide)) H) (cwV 2 htu hU_X5_196 rfl rfl rfl (by decide +kernel) ⟨show 1 + 1 ≤ (fu + 1) + 4 by omega, show 8 + (5 + 11) + 21 ≤ 42 * (fu + 1) + 140 by omega⟩) hP hK hD hC hpp cw_2 rfl rfl hl.1 rfl (lv_room (Nat.le_of_ble_eq_true rfl)) dX5_copied_370) hS hD hh hpp (fun r_60 S_61 H locs hw_62 hP hD hS hC hh hs_63 hpp => ?_)
            obtain ⟨-, hu9, hw_62⟩ := hw_62
            have hu9 := hu9.symm
            subst hu9
            obtain ⟨br_64r, br_64e, br_641⟩ := hw_62
            have br_64b := ty_51.2.1.2.2.1
            have br_64l : br_64r < 35 + kB S_44 := bnd_lt br_641 br_64b (by decide)
            have br_64h : kH S_44 br_64r = r_60 := br_64e.symm
            refine lv_astore (lv' := [(8, .ref r_60), (7, .int 0), (6, .int (nI T)), (5, .int ((2 * r_13) + 0)), (4, .int r_7), (0, .ref (ga G 4)), (1, .int t), (2, .int 2), (3, .int (nI dp))]) hx hb dX5_copied_373 hl (by decide) rfl (fun ls hl => ?_)
            refine lv_aload hx hb dX5_copied_375 (lv_at hl 0 rfl) ?_
            refine va_get (D := gD G) (ci := 0) (v := .int (nI (kK S_44 br_64r))) (C := RX0) (T := TX0) (N := 2) hx hb htu cu_in0 hown hK hP (2 * br_64r + 13) (c_hd br_64h (cw_row br_64l)) rfl 1 (by decide) (htu _ C_313) (fun _ h9 => h9) rfl dX5_copied_377 ?_
            refine lv_istore (lv' := [(9, .int (nI (kK S_44 br_64r))), (8, .ref r_60), (7, .int 0), (6, .int (nI T)), (5, .int ((2 * r_13) + 0)), (4, .int r_7), (0, .ref (ga G 4)), (1, .int t), (2, .int 2), (3, .int (nI dp))]) hx hb dX5_copied_380 hl (by decide) rfl (fun ls hl => ?_)
            refine lv_iconst (v := 0) hx hb dX5_copied_382 (by decide) ?_
            refine lv_istore (lv' := [(10, .int 0), (9, .int (nI (kK S_44 br_64r))), (8, .ref r_60), (7, .int 0), (6, .int (nI T)), (5, .int ((2 * r_13) + 0)), (4, .int r_7), (0, .ref (ga G 4)), (1, .int t), (2, .int 2), (3, .int (nI dp))]) hx hb dX5_copied_383 hl (by decide) rfl (fun ls hl => ?_)
            obtain ⟨ah, eah⟩ : ∃ x, x = kK S_44 br_64r := ⟨_, rfl⟩
            have hah : ah ≤ K + (V + 1) := by
              rw [eah]
              rcases br_641 with h | ⟨j9, w9, h1, h2, h3, h4, h5, h6⟩
              · rw [h.1, kk_48]; exact Nat.zero_le _
              · rw [h6]; exact cr1.2.2.2.2.2 _ (by omega)
            rw [← eah] at hl
            refine w_loop (fun j H locs k sl g => ∃ (S1 : cS) (T1 : Nat) (V1 : Nat) (X1 : Nat) (i : Nat) (ls : Array Slot), CL S1 ∧ HS S S1 ∧ PT S ≤ PT S1 ∧ AW [6, 7, 8, 9, 16, 14, 10, 11, 12, 13, 25, 26, 35] [] S S1 ∧ i + j = ah ∧ CR S S1 T V K 0 T1 V1 X1 Y Z ∧ (V + 1) ≤ V1 ∧ T + 1 ≤ T1 ∧ kK S1 (35 + (2 * V + 0)) ≤ i + 0 * (V1 - (V + 1)) ∧ kF S1 6 T = 4 ∧ kF S1 8 T = nI V ∧ kH S1 br_64r = r_60 ∧ br_64r < 35 + kB S1 ∧ kK S1 (35 + (2 * V + 1)) = 0 ∧ k = PT S1 - PT S ∧ sl = 12 * (PT S1 - PT S) ∧ cP G S1 H ∧ cD (cA G S s.heap.size) G S1 ∧ va_S (cA G S s.heap.size) s.heap H locs ∧ lv_has ls 12 [(0, .ref (ga G 4)), (1, .int t), (2, .int 2), (3, .int (nI dp)), (5, .int ((2 * r_13) + 0)), (6, .int (nI T)), (7, .int 0), (8, .ref r_60), (9, .int (nI ah)), (10, .int (nI i))] ∧ g = F0 m 385 ls []) ?_ ?_ ah _ _ _ _ _ ⟨S_44, (T + 1), (V + 1), X, 0, ls, hC, hh, hpp, aw_47t, by omega, cr1, Nat.le_refl _, by omega, (by rw [q0.1]; exact Nat.zero_le _), q6, q8, br_64h, br_64l, q0.2, rfl, rfl, hP, hD, hS, lv_sub hl [7, 8, 9, 10, 5, 4, 3, 2, 1, 0] rfl, rfl⟩
            · intro H locs k sl g hI
              obtain ⟨S1, T1, V1, X1, i, ls, hC, hh, hpp, hAW, hp0, hp1, hp2, hp3, hp4, hp5, hp6, hp7, hp8, hp9, rfl, rfl, hP, hD, hS, hl, rfl⟩ := hI
              have x15 : kK S1 15 = 0 := (hAW.2.1 15 (lt35 (by decide)) (by decide)).2.trans h15
              have x9 : S1.1 9 = S.1 9 := hAW.1 9 (by decide)
              have x10 : S1.1 10 = S.1 10 := hAW.1 10 (by decide)
              obtain ⟨yT, yV, yB, yX⟩ := hp1.1.2.1
              refine lv_iload hx hb dX5_copied_385 (lv_at hl 9 rfl) ?_
              refine lv_iload hx hb dX5_copied_387 (lv_at hl 8 rfl) ?_
              refine lv_icmp_ge (tgt := 439) hx hb dX5_copied_389 (by decide) (fun c_65 => ?_) (fun c_65 => absurd (nI_le (by omega) (by omega)) c_65)
              refine lv_iinc (v := 1) (lv' := [(7, .int 1), (0, .ref (ga G 4)), (1, .int t), (2, .int 2), (3, .int (nI dp)), (5, .int ((2 * r_13) + 0)), (6, .int (nI T)), (8, .ref r_60), (9, .int (nI ah)), (10, .int (nI i))]) hx hb dX5_copied_439 hl (k := 6) rfl (by decide) (by decide) rfl (fun ls hl => ?_)
              refine lv_goto (tgt := 345) hx hb dX5_copied_442 (by decide) ?_
              refine lv_iload hx hb dX5_copied_345 (lv_at hl 0 rfl) ?_
              refine lv_iconst (v := 1) hx hb dX5_copied_347 (by decide) ?_
              refine lv_icmp_gt (tgt := 445) hx hb dX5_copied_348 (by decide) (fun c_66 => absurd c_66 (by decide)) (fun c_66 => ?_)
              refine lv_iload hx hb dX5_copied_351 (lv_at hl 0 rfl) ?_
              refine lv_iload_n hx hb dX5_copied_353 rfl (lv_at hl 3 rfl) ?_
              have hC0 := hC
              refine c_ci (c_runS (As := [.int 1, .int 2]) (rest := []) ⟨hx, hb, hml, hown, htu⟩ (g_isTaken l G S1 1 2 hC  H) (va_cwS 2 htu hU_X5_227 rfl rfl rfl (by decide +kernel) ⟨show 0 + 1 ≤ (fu + 1) + 4 by omega, show 8 + (2 + 11) + 0 ≤ 42 * (fu + 1) + 140 by omega⟩) hP hK hD hC hpp rfl hl.1 rfl (lv_room (Nat.le_of_ble_eq_true rfl)) dX5_copied_354) hS hD hh hpp (fun r_67 S_68 H locs hw_69 hP hD hS hC hh hs_70 hpp => ?_)
              obtain ⟨-, hu9, hw_69⟩ := hw_69
              have hu9 := hu9.symm
              subst hu9
              obtain rfl : r_67 = 1 := hw_69.trans (by decide)
              refine lv_if_ne (tgt := 363) hx hb dX5_copied_357 (by decide) (fun c_71 => ?_) (fun c_71 => absurd c_71 (by decide))
              refine lv_aload_n hx hb dX5_copied_363 rfl (lv_at hl 1 rfl) ?_
              refine va_get (D := gD G) (ci := 5) (v := .ref (ga G 2)) (C := RX5) (T := TX5) (N := 15) hx hb htu cu_in5 hown hK hP 4 cw_4 rfl 1 (by decide) (htu _ C_45) (fun _ h9 => h9) rfl dX5_copied_364 ?_
              refine lv_iload_n hx hb dX5_copied_367 rfl (lv_at hl 2 rfl) ?_
              refine lv_iload hx hb dX5_copied_368 (lv_at hl 0 rfl) ?_
              have hC0 := hC
              refine c_cr (c_runV (As := [.int t, .int 1]) (rest := []) (q0 := 2) (ci := 4) ⟨hx, hb, hml, hown, htu⟩ (y_boundsOf l G S1 T1 V1 V1 X1 Y Z t 1 hC hp1.1 ((Nat.le_refl _)) ((by decide)) H) (cwV 2 htu hU_X5_196 rfl rfl rfl (by decide +kernel) ⟨show 1 + 1 ≤ (fu + 1) + 4 by omega, show 8 + (5 + 11) + 21 ≤ 42 * (fu + 1) + 140 by omega⟩) hP hK hD hC hpp cw_2 rfl rfl hl.1 rfl (lv_room (Nat.le_of_ble_eq_true rfl)) dX5_copied_370) hS hD hh hpp (fun r_72 S_73 H locs hw_74 hP hD hS hC hh hs_75 hpp => ?_)
              obtain ⟨-, hu9, hw_74⟩ := hw_74
              have hu9 := hu9.symm
              subst hu9
              obtain ⟨br_76r, br_76e, br_761⟩ := hw_74
              have br_76b := hp1.1.2.1.2.2.1
              have br_76l : br_76r < 35 + kB S1 := bnd_lt br_761 br_76b (by decide)
              have br_76h : kH S1 br_76r = r_72 := br_76e.symm
              refine lv_astore (lv' := [(8, .ref r_72), (7, .int 1), (0, .ref (ga G 4)), (1, .int t), (2, .int 2), (3, .int (nI dp)), (5, .int ((2 * r_13) + 0)), (6, .int (nI T)), (9, .int (nI ah)), (10, .int (nI i))]) hx hb dX5_copied_373 hl (by decide) rfl (fun ls hl => ?_)
              refine lv_aload hx hb dX5_copied_375 (lv_at hl 0 rfl) ?_
              refine va_get (D := gD G) (ci := 0) (v := .int (nI (kK S1 br_76r))) (C := RX0) (T := TX0) (N := 2) hx hb htu cu_in0 hown hK hP (2 * br_76r + 13) (c_hd br_76h (cw_row br_76l)) rfl 1 (by decide) (htu _ C_313) (fun _ h9 => h9) rfl dX5_copied_377 ?_
              refine lv_istore (lv' := [(9, .int (nI (kK S1 br_76r))), (8, .ref r_72), (7, .int 1), (0, .ref (ga G 4)), (1, .int t), (2, .int 2), (3, .int (nI dp)), (5, .int ((2 * r_13) + 0)), (6, .int (nI T)), (10, .int (nI i))]) hx hb dX5_copied_380 hl (by decide) rfl (fun ls hl => ?_)
              refine lv_iconst (v := 0) hx hb dX5_copied_382 (by decide) ?_
              refine lv_istore (lv' := [(10, .int 0), (9, .int (nI (kK S1 br_76r))), (8, .ref r_72), (7, .int 1), (0, .ref (ga G 4)), (1, .int t), (2, .int 2), (3, .int (nI dp)), (5, .int ((2 * r_13) + 0)), (6, .int (nI T))]) hx hb dX5_copied_383 hl (by decide) rfl (fun ls hl => ?_)
              obtain ⟨ah7, eah⟩ : ∃ x, x = kK S1 br_76r := ⟨_, rfl⟩
              have hah : ah7 ≤ K + V1 := by
                rw [eah]
                rcases br_761 with h | ⟨j9, w9, h1, h2, h3, h4, h5, h6⟩
                · rw [h.1, x15]; exact Nat.zero_le _
                · rw [h6]; exact hp1.2.2.2.2.2 _ (by omega)
              rw [← eah] at hl
              refine w_loop (fun j H locs k sl g => ∃ (S7 : cS) (T7 : Nat) (V7 : Nat) (X7 : Nat) (i7 : Nat) (ls : Array Slot), CL S7 ∧ HS S S7 ∧ PT S ≤ PT S7 ∧ AW [6, 7, 8, 9, 16, 14, 10, 11, 12, 13, 25, 26, 35] [] S S7 ∧ i7 + j = ah7 ∧ CR S S7 T V K 0 T7 V7 X7 Y Z ∧ V1 ≤ V7 ∧ T + 1 ≤ T7 ∧ kK S7 (35 + (2 * V + 1)) ≤ i7 + 0 * (V7 - V1) ∧ kF S7 6 T = 4 ∧ kF S7 8 T = nI V ∧ kH S7 br_76r = r_72 ∧ br_76r < 35 + kB S7 ∧ k = PT S7 - PT S ∧ sl = 12 * (PT S7 - PT S) ∧ cP G S7 H ∧ cD (cA G S s.heap.size) G S7 ∧ va_S (cA G S s.heap.size) s.heap H locs ∧ lv_has ls 12 [(0, .ref (ga G 4)), (1, .int t), (2, .int 2), (3, .int (nI dp)), (5, .int ((2 * r_13) + 0)), (6, .int (nI T)), (7, .int 1), (8, .ref r_72), (9, .int (nI ah7)), (10, .int (nI i7))] ∧ g = F0 m 385 ls []) ?_ ?_ ah7 _ _ _ _ _ ⟨S1, T1, V1, X1, 0, ls, hC, hh, hpp, hAW, by omega, hp1, Nat.le_refl _, by omega, (by rw [hp9]; exact Nat.zero_le _), hp5, hp6, br_76h, br_76l, rfl, rfl, hP, hD, hS, lv_sub hl [4, 5, 6, 7, 8, 9, 3, 2, 1, 0] rfl, rfl⟩
              · intro H locs k sl g hI
                obtain ⟨S7, T7, V7, X7, i7, ls, hC, hh, hpp, hAW, hq0, hq1, hq2, hq3, hq4, hq5, hq6, hq7, hq8, rfl, rfl, hP, hD, hS, hl, rfl⟩ := hI
                have x15 : kK S7 15 = 0 := (hAW.2.1 15 (lt35 (by decide)) (by decide)).2.trans h15
                have x9 : S7.1 9 = S.1 9 := hAW.1 9 (by decide)
                have x10 : S7.1 10 = S.1 10 := hAW.1 10 (by decide)
                obtain ⟨yT, yV, yB, yX⟩ := hq1.1.2.1
                refine lv_iload hx hb dX5_copied_385 (lv_at hl 9 rfl) ?_
                refine lv_iload hx hb dX5_copied_387 (lv_at hl 8 rfl) ?_
                refine lv_icmp_ge (tgt := 439) hx hb dX5_copied_389 (by decide) (fun c_77 => ?_) (fun c_77 => absurd (nI_le (by omega) (by omega)) c_77)
                refine lv_iinc (v := 2) (lv' := [(7, .int 2), (0, .ref (ga G 4)), (1, .int t), (2, .int 2), (3, .int (nI dp)), (5, .int ((2 * r_13) + 0)), (6, .int (nI T)), (8, .ref r_72), (9, .int (nI ah7)), (10, .int (nI i7))]) hx hb dX5_copied_439 hl (k := 6) rfl (by decide) (by decide) rfl (fun ls hl => ?_)
                refine lv_goto (tgt := 345) hx hb dX5_copied_442 (by decide) ?_
                refine lv_iload hx hb dX5_copied_345 (lv_at hl 0 rfl) ?_
                refine lv_iconst (v := 1) hx hb dX5_copied_347 (by decide) ?_
                refine lv_icmp_gt (tgt := 445) hx hb dX5_copied_348 (by decide) (fun c_78 => ?_) (fun c_78 => absurd (by decide) c_78)
                refine lv_iload hx hb dX5_copied_445 (lv_at hl 6 rfl) ?_
                exact c_iret (v := nI T) hx hb hr hK hP hD hS hC hh hpp ⟨hAW, ⟨T7, V7, X7, Y, hq1, by omega, by omega, fun _ => by omega⟩⟩ dX5_copied_447 hlocks
              · intro j ih7 H locs k sl g hI
                obtain ⟨S7, T7, V7, X7, i7, ls, hC, hh, hpp, hAW, hq0, hq1, hq2, hq3, hq4, hq5, hq6, hq7, hq8, rfl, rfl, hP, hD, hS, hl, rfl⟩ := hI
                have x15 : kK S7 15 = 0 := (hAW.2.1 15 (lt35 (by decide)) (by decide)).2.trans h15
                have x9 : S7.1 9 = S.1 9 := hAW.1 9 (by decide)
                have x10 : S7.1 10 = S.1 10 := hAW.1 10 (by decide)
                obtain ⟨yT, yV, yB, yX⟩ := hq1.1.2.1
                have ni : i7 < ah7 := by omega
                refine lv_iload hx hb dX5_copied_385 (lv_at hl 9 rfl) ?_
                refine lv_iload hx hb dX5_copied_387 (lv_at hl 8 rfl) ?_
                refine lv_icmp_ge (tgt := 439) hx hb dX5_copied_389 (by decide) (fun c_79 => absurd c_79 (nI_ge (by omega) (by omega))) (fun c_79 => ?_)
                refine lv_aload_n hx hb dX5_copied_392 rfl (lv_at hl 0 rfl) ?_
                refine lv_aload hx hb dX5_copied_393 (lv_at hl 7 rfl) ?_
                refine lv_iload hx hb dX5_copied_395 (lv_at hl 9 rfl) ?_
                have hC0 := hC
                refine c_ci (c_runV (As := [.int (nI i7)]) (rest := [.ref (ga G 4)]) (q0 := (2 * br_76r + 13)) (ci := 0) ⟨hx, hb, hml, hown, htu⟩ (c_getA l G S7 br_76r hq8 hC r_72 hq7 (nI i7) H) (cwV 1 htu hU_X5_124 rfl rfl rfl (by decide +kernel) ⟨show 0 + 1 ≤ (fu + 1) + 4 by omega, show 8 + (2 + 11) + 0 ≤ 42 * (fu + 1) + 140 by omega⟩) hP hK hD hC hpp (c_hd hq7 (cw_row hq8)) rfl rfl hl.1 rfl (lv_room (Nat.le_of_ble_eq_true rfl)) dX5_copied_397) hS hD hh hpp (fun r_80 S_81 H locs hw_82 hP hD hS hC hh hs_83 hpp => ?_)
                obtain ⟨hu9, hw_82⟩ := hw_82
                have hu9 := hu9.symm
                subst hu9
                refine lv_iload_n hx hb dX5_copied_400 rfl (lv_at hl 2 rfl) ?_
                refine lv_iload_n hx hb dX5_copied_401 rfl (lv_at hl 3 rfl) ?_
                refine lv_iconst (v := 1) hx hb dX5_copied_402 (by decide) ?_
                refine lv_iadd hx hb dX5_copied_403 ?_
                refine m_top (y := nI (dp + 1)) (nI_1 dp) ?_
                have hC0 := hC
                refine c_ci (c_runV (As := [.int r_80, .int 2, .int (nI (dp + 1))]) (rest := []) (q0 := 4) (ci := 5) ⟨hx, hb, hml, hown, htu⟩ (ih l G S7 T7 V7 X7 Y Z K 0 (dp + 1) 2 r_80 hC hq1.1 hq1.2.2.2.2.2 hKK x15 ((Or.inl ⟨rfl, rfl⟩)) ((by decide)) ((by omega)) ((by omega)) ((by rw [x10]; exact hlev)) ((fun h => absurd rfl h)) H) (cwV 3 htu hU_X5_131 rfl rfl rfl (by decide +kernel) ⟨show (fu + 4) + 1 ≤ (fu + 1) + 4 by omega, show 8 + (12 + 11) + (42 * fu + 140) ≤ 42 * (fu + 1) + 140 by omega⟩) hP hK hD hC hpp cw_4 rfl rfl hl.1 rfl (lv_room (Nat.le_of_ble_eq_true rfl)) dX5_copied_404) hS hD hh hpp (fun r_84 S_85 H locs hw_86 hP hD hS hC hh hs_87 hpp => ?_)
                try dsimp only at hw_86
                have aw_88 : AW [6, 7, 8, 9, 16, 14, 10, 11, 12, 13, 25, 26, 35] [] S7 S_85 := hw_86.1
                have aw_88t : AW [6, 7, 8, 9, 16, 14, 10, 11, 12, 13, 25, 26, 35] [] S S_85 := hAW.tr (aw_88.mono (by decide) (by decide))
                have kk_89 : kK S_85 15 = 0 := (aw_88.2.1 15 (lt35 (by decide)) (by decide)).2.trans x15
                have ii_90 : S_85.1 9 = S.1 9 := (aw_88.1 9 (by decide)).trans x9
                have ii_91 : S_85.1 10 = S.1 10 := (aw_88.1 10 (by decide)).trans x10
                have ha_92r : br_76r < 35 + kB S_85 := by have := hs_87.1; have := hq8; omega
                have ha_92 : kH S_85 br_76r = r_72 := (hs_87.2 br_76r hq8).trans hq7
                obtain ⟨cx_93T, cx_93V, cx_93X, cx_93Y, cx_93R, cx_93a, cx_93b, cx_93c⟩ := hw_86.2
                have cx_93h := hq1.tr cx_93R
                obtain ⟨-, cx_93t1, cx_93t2, -⟩ := id cx_93R
                obtain ⟨cx_93u1, cx_93u2, cx_93u3, cx_93u4⟩ := cx_93R.1.2.1
                refine lv_istore (lv' := [(11, .int r_84), (0, .ref (ga G 4)), (1, .int t), (2, .int 2), (3, .int (nI dp)), (5, .int ((2 * r_13) + 0)), (6, .int (nI T)), (7, .int 1), (8, .ref r_72), (9, .int (nI ah7)), (10, .int (nI i7))]) hx hb dX5_copied_407 hl (by decide) rfl (fun ls hl => ?_)
                refine lv_iload hx hb dX5_copied_409 (lv_at hl 0 rfl) ?_
                refine lv_if_ge (tgt := 417) hx hb dX5_copied_411 (by decide) (fun c_94 => ?_) (fun c_94 => ?_)
                · skip
                  have cx_93e : cx_93Y = Y := cx_93c (Int32.not_lt.mpr c_94)
                  rw [cx_93e] at cx_93h
                  refine lv_aload_n hx hb dX5_copied_417 rfl (lv_at hl 1 rfl) ?_
                  refine va_get (D := gD G) (ci := 5) (v := .ref (ga G 2)) (C := RX5) (T := TX5) (N := 15) hx hb htu cu_in5 hown hK hP 4 cw_4 rfl 1 (by decide) (htu _ C_45) (fun _ h9 => h9) rfl dX5_copied_418 ?_
                  refine lv_iload hx hb dX5_copied_421 (lv_at hl 6 rfl) ?_
                  refine lv_iload hx hb dX5_copied_423 (lv_at hl 7 rfl) ?_
                  have hC0 := hC
                  refine c_cr (c_runV (As := [.int (nI T), .int 1]) (rest := []) (q0 := 2) (ci := 4) ⟨hx, hb, hml, hown, htu⟩ (y_boundsOf l G S_85 cx_93T cx_93V cx_93V cx_93X Y Z (nI T) 1 hC cx_93h.1 ((Nat.le_refl _)) ((by decide)) H) (cwV 2 htu hU_X5_196 rfl rfl rfl (by decide +kernel) ⟨show 1 + 1 ≤ (fu + 1) + 4 by omega, show 8 + (5 + 11) + 21 ≤ 42 * (fu + 1) + 140 by omega⟩) hP hK hD hC hpp cw_2 rfl rfl hl.1 rfl (lv_room (Nat.le_of_ble_eq_true rfl)) dX5_copied_425) hS hD hh hpp (fun r_95 S_96 H locs hw_97 hP hD hS hC hh hs_98 hpp => ?_)
                  obtain ⟨-, hu9, hw_97⟩ := hw_97
                  have hu9 := hu9.symm
                  subst hu9
                  obtain ⟨br_99r, br_99e, br_991⟩ := hw_97
                  have br_99b := cx_93h.1.2.1.2.2.1
                  have br_99l : br_99r < 35 + kB S_85 := bnd_lt br_991 br_99b (by decide)
                  have br_99h : kH S_85 br_99r = r_95 := br_99e.symm
                  refine lv_iload hx hb dX5_copied_428 (lv_at hl 0 rfl) ?_
                  have pu_1006 : kF S_85 6 T = 4 := (cx_93R.2.2.2.1 T (by omega)).1.trans hq5
                  have pu_1008 : kF S_85 8 T = nI V := (cx_93R.2.2.2.1 T (by omega)).2.trans hq6
                  have pu_100r := bnd_at br_991 pu_1006 pu_1008 (by have := cx_93h.1.1.1; omega) (by have := cx_93h.1.1.1; omega) (by omega) (by omega) (by omega)
                  have pu_100k : kK S_85 br_99r + 1 ≤ K + cx_93V := by have h9 := cx_93R.2.2.2.2.1 (2 * V + 1) (by omega); rw [pu_100r]; omega
                  have hC0 := hC
                  refine c_cv (c_runV (As := [.int r_84]) (rest := []) (q0 := (2 * br_99r + 13)) (ci := 0) ⟨hx, hb, hml, hown, htu⟩ (c_addA l G S_85 br_99r br_99l hC r_95 br_99h r_84 (by rw [pu_100r, lim_b (Nat.le_add_right 35 _), ← pu_100r]; omega) H) (cwV 1 htu hU_X5_200 rfl rfl rfl (by decide +kernel) ⟨show 2 + 1 ≤ (fu + 1) + 4 by omega, show 8 + (2 + 11) + 82 ≤ 42 * (fu + 1) + 140 by omega⟩) hP hK hD hC hpp (c_hd br_99h (cw_row br_99l)) rfl rfl hl.1 rfl (lv_room (Nat.le_of_ble_eq_true rfl)) dX5_copied_430) hS hD hh hpp (fun S_102 H locs hw_103 hP hD hS hC hh hs_104 hpp => ?_)
                  try dsimp only at hw_103
                  have aw_105 : AW [35] [] S_85 S_102 := (by obtain ⟨_, _, _, h9, -, -⟩ := hw_103; rw [h9]; exact AW.u (by first | (simp; omega) | simp))
                  have aw_105t : AW [6, 7, 8, 9, 16, 14, 10, 11, 12, 13, 25, 26, 35] [] S S_102 := aw_88t.tr (aw_105.mono (by decide) (by decide))
                  have kk_106 : kK S_102 15 = 0 := (aw_105.2.1 15 (lt35 (by decide)) (by decide)).2.trans kk_89
                  have ii_107 : S_102.1 9 = S.1 9 := (aw_105.1 9 (by decide)).trans ii_90
                  have ii_108 : S_102.1 10 = S.1 10 := (aw_105.1 10 (by decide)).trans ii_91
                  have ha_109r : br_76r < 35 + kB S_102 := by have := hs_104.1; have := ha_92r; omega
                  have ha_109 : kH S_102 br_76r = r_72 := (hs_104.2 br_76r ha_92r).trans ha_92
                  have ha_110r : br_99r < 35 + kB S_102 := by have := hs_104.1; have := br_99l; omega
                  have ha_110 : kH S_102 br_99r = r_95 := (hs_104.2 br_99r br_99l).trans br_99h
                  have ty_111 := TY.aw cx_93h.1 aw_105 (by decide)
                  obtain ⟨ad_112n, ad_112q, ad_112g, ad_112u, ad_1121, ad_1122⟩ := hw_103
                  have cp_113 := cx_93h.push ad_112u pu_100r (by omega) pu_100k
                  have cp_1136 : kF S_102 6 T = 4 := by rw [(aw_105.2.1 6 (lt35 (by decide)) (by decide)).1]; exact pu_1006
                  have cp_1138 : kF S_102 8 T = nI V := by rw [(aw_105.2.1 8 (lt35 (by decide)) (by decide)).1]; exact pu_1008
                  have cp_113k : kK S_102 (35 + (2 * V + 1)) ≤ (i7 + 1) + 0 * (cx_93V - V1) := by have h9 := cx_93R.2.2.2.2.1 (2 * V + 1) (by omega); rw [← pu_100r, ad_112u, uR_K, pu_100r]; omega
                  refine lv_iinc (v := nI (i7 + 1)) (lv' := [(10, .int (nI (i7 + 1))), (11, .int r_84), (0, .ref (ga G 4)), (1, .int t), (2, .int 2), (3, .int (nI dp)), (5, .int ((2 * r_13) + 0)), (6, .int (nI T)), (7, .int 1), (8, .ref r_72), (9, .int (nI ah7))]) hx hb dX5_copied_433 hl (k := 10) rfl (nI_1 i7) (by decide) rfl (fun ls hl => ?_)
                  refine lv_goto (tgt := 385) hx hb dX5_copied_436 (by decide) ?_
                  exact ih7 _ _ _ _ _ ⟨S_102, cx_93T, cx_93V, cx_93X, i7 + 1, ls, hC, hh, hpp, aw_105t, by omega, cp_113, by omega, by omega, cp_113k, cp_1136, cp_1138, ha_109, ha_109r, rfl, rfl, hP, hD, hS, lv_sub hl [2, 3, 4, 5, 6, 7, 8, 9, 10, 0] rfl, rfl⟩
                · skip
                  refine lv_iload hx hb dX5_copied_414 (lv_at hl 0 rfl) ?_
                  exact c_iret (v := r_84) hx hb hr hK hP hD hS hC hh hpp ⟨aw_88t, ⟨cx_93T, cx_93V, cx_93X, cx_93Y, cx_93h, by omega, by omega, fun h => absurd (Int32.not_le.mp c_94) h⟩⟩ dX5_copied_416 hlocks
            · intro j ih9 H locs k sl g hI
              obtain ⟨S1, T1, V1, X1, i, ls, hC, hh, hpp, hAW, hp0, hp1, hp2, hp3, hp4, hp5, hp6, hp7, hp8, hp9, rfl, rfl, hP, hD, hS, hl, rfl⟩ := hI
              have x15 : kK S1 15 = 0 := (hAW.2.1 15 (lt35 (by decide)) (by decide)).2.trans h15
              have x9 : S1.1 9 = S.1 9 := hAW.1 9 (by decide)
              have x10 : S1.1 10 = S.1 10 := hAW.1 10 (by decide)
              obtain ⟨yT, yV, yB, yX⟩ := hp1.1.2.1
              have ni : i < ah := by omega
              refine lv_iload hx hb dX5_copied_385 (lv_at hl 9 rfl) ?_
              refine lv_iload hx hb dX5_copied_387 (lv_at hl 8 rfl) ?_
              refine lv_icmp_ge (tgt := 439) hx hb dX5_copied_389 (by decide) (fun c_114 => absurd c_114 (nI_ge (by omega) (by omega))) (fun c_114 => ?_)
              refine lv_aload_n hx hb dX5_copied_392 rfl (lv_at hl 0 rfl) ?_
              refine lv_aload hx hb dX5_copied_393 (lv_at hl 7 rfl) ?_
              refine lv_iload hx hb dX5_copied_395 (lv_at hl 9 rfl) ?_
              have hC0 := hC
              refine c_ci (c_runV (As := [.int (nI i)]) (rest := [.ref (ga G 4)]) (q0 := (2 * br_64r + 13)) (ci := 0) ⟨hx, hb, hml, hown, htu⟩ (c_getA l G S1 br_64r hp8 hC r_60 hp7 (nI i) H) (cwV 1 htu hU_X5_124 rfl rfl rfl (by decide +kernel) ⟨show 0 + 1 ≤ (fu + 1) + 4 by omega, show 8 + (2 + 11) + 0 ≤ 42 * (fu + 1) + 140 by omega⟩) hP hK hD hC hpp (c_hd hp7 (cw_row hp8)) rfl rfl hl.1 rfl (lv_room (Nat.le_of_ble_eq_true rfl)) dX5_copied_397) hS hD hh hpp (fun r_115 S_116 H locs hw_117 hP hD hS hC hh hs_118 hpp => ?_)
              obtain ⟨hu9, hw_117⟩ := hw_117
              have hu9 := hu9.symm
              subst hu9
              refine lv_iload_n hx hb dX5_copied_400 rfl (lv_at hl 2 rfl) ?_
              refine lv_iload_n hx hb dX5_copied_401 rfl (lv_at hl 3 rfl) ?_
              refine lv_iconst (v := 1) hx hb dX5_copied_402 (by decide) ?_
              refine lv_iadd hx hb dX5_copied_403 ?_
              refine m_top (y := nI (dp + 1)) (nI_1 dp) ?_
              have hC0 := hC
              refine c_ci (c_runV (As := [.int r_115, .int 2, .int (nI (dp + 1))]) (rest := []) (q0 := 4) (ci := 5) ⟨hx, hb, hml, hown, htu⟩ (ih l G S1 T1 V1 X1 Y Z K 0 (dp + 1) 2 r_115 hC hp1.1 hp1.2.2.2.2.2 hKK x15 ((Or.inl ⟨rfl, rfl⟩)) ((by decide)) ((by omega)) ((by omega)) ((by rw [x10]; exact hlev)) ((fun h => absurd rfl h)) H) (cwV 3 htu hU_X5_131 rfl rfl rfl (by decide +kernel) ⟨show (fu + 4) + 1 ≤ (fu + 1) + 4 by omega, show 8 + (12 + 11) + (42 * fu + 140) ≤ 42 * (fu + 1) + 140 by omega⟩) hP hK hD hC hpp cw_4 rfl rfl hl.1 rfl (lv_room (Nat.le_of_ble_eq_true rfl)) dX5_copied_404) hS hD hh hpp (fun r_119 S_120 H locs hw_121 hP hD hS hC hh hs_122 hpp => ?_)
              try dsimp only at hw_121
              have aw_123 : AW [6, 7, 8, 9, 16, 14, 10, 11, 12, 13, 25, 26, 35] [] S1 S_120 := hw_121.1
              have aw_123t : AW [6, 7, 8, 9, 16, 14, 10, 11, 12, 13, 25, 26, 35] [] S S_120 := hAW.tr (aw_123.mono (by decide) (by decide))
              have kk_124 : kK S_120 15 = 0 := (aw_123.2.1 15 (lt35 (by decide)) (by decide)).2.trans x15
              have ii_125 : S_120.1 9 = S.1 9 := (aw_123.1 9 (by decide)).trans x9
              have ii_126 : S_120.1 10 = S.1 10 := (aw_123.1 10 (by decide)).trans x10
              have ha_127r : br_64r < 35 + kB S_120 := by have := hs_122.1; have := hp8; omega
              have ha_127 : kH S_120 br_64r = r_60 := (hs_122.2 br_64r hp8).trans hp7
              obtain ⟨cx_128T, cx_128V, cx_128X, cx_128Y, cx_128R, cx_128a, cx_128b, cx_128c⟩ := hw_121.2
              have cx_128h := hp1.tr cx_128R
              obtain ⟨-, cx_128t1, cx_128t2, -⟩ := id cx_128R
              obtain ⟨cx_128u1, cx_128u2, cx_128u3, cx_128u4⟩ := cx_128R.1.2.1
              refine lv_istore (lv' := [(11, .int r_119), (0, .ref (ga G 4)), (1, .int t), (2, .int 2), (3, .int (nI dp)), (5, .int ((2 * r_13) + 0)), (6, .int (nI T)), (7, .int 0), (8, .ref r_60), (9, .int (nI ah)), (10, .int (nI i))]) hx hb dX5_copied_407 hl (by decide) rfl (fun ls hl => ?_)
              refine lv_iload hx hb dX5_copied_409 (lv_at hl 0 rfl) ?_
              refine lv_if_ge (tgt := 417) hx hb dX5_copied_411 (by decide) (fun c_129 => ?_) (fun c_129 => ?_)
              · skip
                have cx_128e : cx_128Y = Y := cx_128c (Int32.not_lt.mpr c_129)
                rw [cx_128e] at cx_128h
                refine lv_aload_n hx hb dX5_copied_417 rfl (lv_at hl 1 rfl) ?_
                refine va_get (D := gD G) (ci := 5) (v := .ref (ga G 2)) (C := RX5) (T := TX5) (N := 15) hx hb htu cu_in5 hown hK hP 4 cw_4 rfl 1 (by decide) (htu _ C_45) (fun _ h9 => h9) rfl dX5_copied_418 ?_
                refine lv_iload hx hb dX5_copied_421 (lv_at hl 6 rfl) ?_
                refine lv_iload hx hb dX5_copied_423 (lv_at hl 7 rfl) ?_
                have hC0 := hC
                refine c_cr (c_runV (As := [.int (nI T), .int 0]) (rest := []) (q0 := 2) (ci := 4) ⟨hx, hb, hml, hown, htu⟩ (y_boundsOf l G S_120 cx_128T cx_128V cx_128V cx_128X Y Z (nI T) 0 hC cx_128h.1 ((Nat.le_refl _)) ((by decide)) H) (cwV 2 htu hU_X5_196 rfl rfl rfl (by decide +kernel) ⟨show 1 + 1 ≤ (fu + 1) + 4 by omega, show 8 + (5 + 11) + 21 ≤ 42 * (fu + 1) + 140 by omega⟩) hP hK hD hC hpp cw_2 rfl rfl hl.1 rfl (lv_room (Nat.le_of_ble_eq_true rfl)) dX5_copied_425) hS hD hh hpp (fun r_130 S_131 H locs hw_132 hP hD hS hC hh hs_133 hpp => ?_)
                obtain ⟨-, hu9, hw_132⟩ := hw_132
                have hu9 := hu9.symm
                subst hu9
                obtain ⟨br_134r, br_134e, br_1341⟩ := hw_132
                have br_134b := cx_128h.1.2.1.2.2.1
                have br_134l : br_134r < 35 + kB S_120 := bnd_lt br_1341 br_134b (by decide)
                have br_134h : kH S_120 br_134r = r_130 := br_134e.symm
                refine lv_iload hx hb dX5_copied_428 (lv_at hl 0 rfl) ?_
                have pu_1356 : kF S_120 6 T = 4 := (cx_128R.2.2.2.1 T (by omega)).1.trans hp5
                have pu_1358 : kF S_120 8 T = nI V := (cx_128R.2.2.2.1 T (by omega)).2.trans hp6
                have pu_135r := bnd_at br_1341 pu_1356 pu_1358 (by have := cx_128h.1.1.1; omega) (by have := cx_128h.1.1.1; omega) (by omega) (by omega) (by omega)
                have pu_135k : kK S_120 br_134r + 1 ≤ K + cx_128V := by have h9 := cx_128R.2.2.2.2.1 (2 * V + 0) (by omega); rw [pu_135r]; omega
                have hC0 := hC
                refine c_cv (c_runV (As := [.int r_119]) (rest := []) (q0 := (2 * br_134r + 13)) (ci := 0) ⟨hx, hb, hml, hown, htu⟩ (c_addA l G S_120 br_134r br_134l hC r_130 br_134h r_119 (by rw [pu_135r, lim_b (Nat.le_add_right 35 _), ← pu_135r]; omega) H) (cwV 1 htu hU_X5_200 rfl rfl rfl (by decide +kernel) ⟨show 2 + 1 ≤ (fu + 1) + 4 by omega, show 8 + (2 + 11) + 82 ≤ 42 * (fu + 1) + 140 by omega⟩) hP hK hD hC hpp (c_hd br_134h (cw_row br_134l)) rfl rfl hl.1 rfl (lv_room (Nat.le_of_ble_eq_true rfl)) dX5_copied_430) hS hD hh hpp (fun S_137 H locs hw_138 hP hD hS hC hh hs_139 hpp => ?_)
                try dsimp only at hw_138
                have aw_140 : AW [35] [] S_120 S_137 := (by obtain ⟨_, _, _, h9, -, -⟩ := hw_138; rw [h9]; exact AW.u (by first | (simp; omega) | simp))
                have aw_140t : AW [6, 7, 8, 9, 16, 14, 10, 11, 12, 13, 25, 26, 35] [] S S_137 := aw_123t.tr (aw_140.mono (by decide) (by decide))
                have kk_141 : kK S_137 15 = 0 := (aw_140.2.1 15 (lt35 (by decide)) (by decide)).2.trans kk_124
                have ii_142 : S_137.1 9 = S.1 9 := (aw_140.1 9 (by decide)).trans ii_125
                have ii_143 : S_137.1 10 = S.1 10 := (aw_140.1 10 (by decide)).trans ii_126
                have ha_144r : br_64r < 35 + kB S_137 := by have := hs_139.1; have := ha_127r; omega
                have ha_144 : kH S_137 br_64r = r_60 := (hs_139.2 br_64r ha_127r).trans ha_127
                have ha_145r : br_134r < 35 + kB S_137 := by have := hs_139.1; have := br_134l; omega
                have ha_145 : kH S_137 br_134r = r_130 := (hs_139.2 br_134r br_134l).trans br_134h
                have ty_146 := TY.aw cx_128h.1 aw_140 (by decide)
                obtain ⟨ad_147n, ad_147q, ad_147g, ad_147u, ad_1471, ad_1472⟩ := hw_138
                have cp_148 := cx_128h.push ad_147u pu_135r (by omega) pu_135k
                have cp_1486 : kF S_137 6 T = 4 := by rw [(aw_140.2.1 6 (lt35 (by decide)) (by decide)).1]; exact pu_1356
                have cp_1488 : kF S_137 8 T = nI V := by rw [(aw_140.2.1 8 (lt35 (by decide)) (by decide)).1]; exact pu_1358
                have cp_148k : kK S_137 (35 + (2 * V + 0)) ≤ (i + 1) + 0 * (cx_128V - (V + 1)) := by have h9 := cx_128R.2.2.2.2.1 (2 * V + 0) (by omega); rw [← pu_135r, ad_147u, uR_K, pu_135r]; omega
                have cp_148o : kK S_137 (35 + (2 * V + 1)) = 0 := by have h9 := cx_128R.2.2.2.2.1 (2 * V + 1) (by omega); rw [ad_147u, uR_Ko (by omega)]; omega
                refine lv_iinc (v := nI (i + 1)) (lv' := [(10, .int (nI (i + 1))), (11, .int r_119), (0, .ref (ga G 4)), (1, .int t), (2, .int 2), (3, .int (nI dp)), (5, .int ((2 * r_13) + 0)), (6, .int (nI T)), (7, .int 0), (8, .ref r_60), (9, .int (nI ah))]) hx hb dX5_copied_433 hl (k := 10) rfl (nI_1 i) (by decide) rfl (fun ls hl => ?_)
                refine lv_goto (tgt := 385) hx hb dX5_copied_436 (by decide) ?_
                exact ih9 _ _ _ _ _ ⟨S_137, cx_128T, cx_128V, cx_128X, i + 1, ls, hC, hh, hpp, aw_140t, by omega, cp_148, by omega, by omega, cp_148k, cp_1486, cp_1488, ha_144, ha_144r, cp_148o, rfl, rfl, hP, hD, hS, lv_sub hl [2, 3, 4, 5, 6, 7, 8, 9, 10, 0] rfl, rfl⟩
              · skip
                refine lv_iload hx hb dX5_copied_414 (lv_at hl 0 rfl) ?_
                exact c_iret (v := r_119) hx hb hr hK hP hD hS hC hh hpp ⟨aw_123t, ⟨cx_128T, cx_128V, cx_128X, cx_128Y, cx_128h, by omega, by omega, fun h => absurd (Int32.not_le.mp c_129) h⟩⟩ dX5_copied_416 hlocks
        · skip
          refine lv_aload_n hx hb dX5_copied_250 rfl (lv_at hl 2 rfl) ?_
          refine va_get (D := gD G) (ci := 5) (v := .ref (kH S 25)) (C := RX5) (T := TX5) (N := 15) hx hb htu cu_in5 hown hK hP 4 cw_4 rfl 6 (by decide) (htu _ C_55) (fun _ h9 => h9) rfl dX5_copied_251 ?_
          refine lv_iload hx hb dX5_copied_254 (lv_at hl 0 rfl) ?_
          have hC0 := hC
          refine c_ci (c_runV (As := [.int ((2 * r_13) + 0)]) (rest := []) (q0 := (2 * 25 + 13)) (ci := 0) ⟨hx, hb, hml, hown, htu⟩ (c_getA l G S 25 (lt35 (by decide)) hC (kH S 25) rfl ((2 * r_13) + 0) H) (cwV 1 htu hU_X5_124 rfl rfl rfl (by decide +kernel) ⟨show 0 + 1 ≤ (fu + 1) + 4 by omega, show 8 + (2 + 11) + 0 ≤ 42 * (fu + 1) + 140 by omega⟩) hP hK hD hC hpp (c_hd rfl (cw_row (lt35 (by decide)))) rfl rfl hl.1 rfl (lv_room (Nat.le_of_ble_eq_true rfl)) dX5_copied_256) hS hD hh hpp (fun r_149 S_150 H locs hw_151 hP hD hS hC hh hs_152 hpp => ?_)
          obtain ⟨hu9, hw_151⟩ := hw_151
          have hu9 := hu9.symm
          subst hu9
          exact c_iret (v := r_149) hx hb hr hK hP hD hS hC hh hpp ⟨AW.rf, ⟨T, V, X, Y, cr0, by omega, by omega, fun _ => by omega⟩⟩ dX5_copied_259 hlocks
      · skip
        refine lv_aload_n hx hb dX5_copied_119 rfl (lv_at hl 1 rfl) ?_
        refine va_get (D := gD G) (ci := 5) (v := .ref (ga G 2)) (C := RX5) (T := TX5) (N := 15) hx hb htu cu_in5 hown hK hP 4 cw_4 rfl 1 (by decide) (htu _ C_45) (fun _ h9 => h9) rfl dX5_copied_120 ?_
        have hC0 := hC
        refine c_ci (c_runV (As := []) (rest := []) (q0 := 2) (ci := 4) ⟨hx, hb, hml, hown, htu⟩ (y_stagedCount l G S  hC  H) (cwV 0 htu hU_X5_153 rfl rfl rfl (by decide +kernel) ⟨show 0 + 1 ≤ (fu + 1) + 4 by omega, show 8 + (1 + 11) + 0 ≤ 42 * (fu + 1) + 140 by omega⟩) hP hK hD hC hpp cw_2 rfl rfl hl.1 rfl (lv_room (Nat.le_of_ble_eq_true rfl)) dX5_copied_123) hS hD hh hpp (fun r_153 S_154 H locs hw_155 hP hD hS hC hh hs_156 hpp => ?_)
        obtain ⟨-, hu9, hw_155⟩ := hw_155
        have hu9 := hu9.symm
        subst hu9
        obtain rfl : r_153 = nI Y := hw_155.trans (congrArg nI hY.1.2.2.2.2.2.2.2.2.2.1)
        refine lv_istore (lv' := [(5, .int (nI Y)), (4, .int r_7), (0, .ref (ga G 4)), (1, .int t), (2, .int 2), (3, .int (nI dp))]) hx hb dX5_copied_126 hl (by decide) rfl (fun ls hl => ?_)
        refine lv_aload_n hx hb dX5_copied_128 rfl (lv_at hl 2 rfl) ?_
        refine va_get (D := gD G) (ci := 5) (v := .ref (ga G 2)) (C := RX5) (T := TX5) (N := 15) hx hb htu cu_in5 hown hK hP 4 cw_4 rfl 1 (by decide) (htu _ C_45) (fun _ h9 => h9) rfl dX5_copied_129 ?_
        refine lv_iload_n hx hb dX5_copied_132 rfl (lv_at hl 3 rfl) ?_
        have hC0 := hC
        refine c_ci (c_runV (As := [.int t]) (rest := []) (q0 := 2) (ci := 4) ⟨hx, hb, hml, hown, htu⟩ (y_fieldCount l G S T V V X Y Z t hC hY H) (cwV 1 htu hU_X5_184 rfl rfl rfl (by decide +kernel) ⟨show 1 + 1 ≤ (fu + 1) + 4 by omega, show 8 + (2 + 11) + 21 ≤ 42 * (fu + 1) + 140 by omega⟩) hP hK hD hC hpp cw_2 rfl rfl hl.1 rfl (lv_room (Nat.le_of_ble_eq_true rfl)) dX5_copied_133) hS hD hh hpp (fun r_157 S_158 H locs hw_159 hP hD hS hC hh hs_160 hpp => ?_)
        obtain ⟨-, hu9, hw_159⟩ := hw_159
        have hu9 := hu9.symm
        subst hu9
        refine lv_istore (lv' := [(6, .int r_157), (5, .int (nI Y)), (4, .int r_7), (0, .ref (ga G 4)), (1, .int t), (2, .int 2), (3, .int (nI dp))]) hx hb dX5_copied_136 hl (by decide) rfl (fun ls hl => ?_)
        refine lv_iconst (v := 0) hx hb dX5_copied_138 (by decide) ?_
        refine lv_istore (lv' := [(7, .int 0), (6, .int r_157), (5, .int (nI Y)), (4, .int r_7), (0, .ref (ga G 4)), (1, .int t), (2, .int 2), (3, .int (nI dp))]) hx hb dX5_copied_139 hl (by decide) rfl (fun ls hl => ?_)
        refine w_loop (fun j H locs k sl g => ∃ (S1 : cS) (T1 : Nat) (V1 : Nat) (X1 : Nat) (i : Nat) (ls : Array Slot), CL S1 ∧ HS S S1 ∧ PT S ≤ PT S1 ∧ AW [6, 7, 8, 9, 16, 14, 10, 11, 12, 13, 25, 26, 35] [] S S1 ∧ i + j = 6 ∧ CR S S1 T V K 0 T1 V1 X1 (Y + i) Z ∧ k = PT S1 - PT S ∧ sl = 12 * (PT S1 - PT S) ∧ cP G S1 H ∧ cD (cA G S s.heap.size) G S1 ∧ va_S (cA G S s.heap.size) s.heap H locs ∧ lv_has ls 12 [(0, .ref (ga G 4)), (1, .int t), (2, .int 2), (3, .int (nI dp)), (5, .int (nI Y)), (6, .int r_157), (7, .int (nI i))] ∧ g = F0 m 141 ls []) ?_ ?_ 6 _ _ _ _ _ ⟨S, T, V, X, 0, ls, hC, hh, hpp, AW.rf, by omega, cr0, rfl, rfl, hP, hD, hS, lv_sub hl [4, 5, 6, 7, 2, 1, 0] rfl, rfl⟩
        · intro H locs k sl g hI
          obtain ⟨S1, T1, V1, X1, i, ls, hC, hh, hpp, hAW, hp0, hp1, rfl, rfl, hP, hD, hS, hl, rfl⟩ := hI
          have x15 : kK S1 15 = 0 := (hAW.2.1 15 (lt35 (by decide)) (by decide)).2.trans h15
          have x9 : S1.1 9 = S.1 9 := hAW.1 9 (by decide)
          have x10 : S1.1 10 = S.1 10 := hAW.1 10 (by decide)
          obtain ⟨yT, yV, yB, yX⟩ := hp1.1.2.1
          have yt1 := hp1.2.1
          refine lv_iload hx hb dX5_copied_141 (lv_at hl 6 rfl) ?_
          refine lv_iload hx hb dX5_copied_143 (lv_at hl 5 rfl) ?_
          refine lv_icmp_ge (tgt := 201) hx hb dX5_copied_145 (by decide) (fun c_161 => ?_) (fun c_161 => absurd (Int32.le_trans hw_159 (show (6 : Int32) ≤ nI i by rw [show i = 6 by omega]; decide)) c_161)
          refine lv_aload_n hx hb dX5_copied_201 rfl (lv_at hl 0 rfl) ?_
          refine va_get (D := gD G) (ci := 5) (v := .ref (ga G 2)) (C := RX5) (T := TX5) (N := 15) hx hb htu cu_in5 hown hK hP 4 cw_4 rfl 1 (by decide) (htu _ C_45) (fun _ h9 => h9) rfl dX5_copied_202 ?_
          refine lv_iload hx hb dX5_copied_205 (lv_at hl 4 rfl) ?_
          have hC0 := hC
          refine c_ci (c_runV (As := [.int (nI Y)]) (rest := []) (q0 := 2) (ci := 4) ⟨hx, hb, hml, hown, htu⟩ (y_addRecord l G S1 T1 V1 V1 X1 (Y + i) Z Y hC hp1.1 ((by omega)) ((by omega)) ((by omega)) H) (cwV 1 htu hU_X5_165 rfl rfl rfl (by decide +kernel) ⟨show 4 + 1 ≤ (fu + 1) + 4 by omega, show 8 + (6 + 11) + 128 ≤ 42 * (fu + 1) + 140 by omega⟩) hP hK hD hC hpp cw_2 rfl rfl hl.1 rfl (lv_room (Nat.le_of_ble_eq_true rfl)) dX5_copied_207) hS hD hh hpp (fun r_162 S_163 H locs hw_164 hP hD hS hC hh hs_165 hpp => ?_)
          try dsimp only at hw_164
          have aw_166 : AW [6, 7, 8, 9, 16, 10, 11, 12, 13] [] S1 S_163 := hw_164.1
          have aw_166t : AW [6, 7, 8, 9, 16, 14, 10, 11, 12, 13, 25, 26, 35] [] S S_163 := hAW.tr (aw_166.mono (by decide) (by decide))
          have kk_167 : kK S_163 15 = 0 := (aw_166.2.1 15 (lt35 (by decide)) (by decide)).2.trans x15
          have ii_168 : S_163.1 9 = S.1 9 := (aw_166.1 9 (by decide)).trans x9
          have ii_169 : S_163.1 10 = S.1 10 := (aw_166.1 10 (by decide)).trans x10
          rcases hw_164.2 with ⟨ty_170v, ty_170s⟩ | ⟨ty_170v, ty_170t, ty_170, ty_170o⟩
          · skip
            subst ty_170v
            exact c_iret (v := (-6)) hx hb hr hK hP hD hS hC hh hpp ⟨aw_166t, ⟨T1, V1, X1, Y + i, (by rw [ty_170s]; exact hp1), by omega, by omega, fun h => absurd (by decide) h⟩⟩ dX5_copied_210 hlocks
          · skip
            subst ty_170v
            exact c_iret (v := nI T1) hx hb hr hK hP hD hS hC hh hpp ⟨aw_166t, ⟨_, _, _, _, hp1.step ty_170 (Nat.le_succ _) ty_170o (aw_166.bnd (by decide) yB), Nat.le_refl _, Nat.le_add_right _ _, fun _ => rfl⟩⟩ dX5_copied_210 hlocks
        · intro j ih9 H locs k sl g hI
          obtain ⟨S1, T1, V1, X1, i, ls, hC, hh, hpp, hAW, hp0, hp1, rfl, rfl, hP, hD, hS, hl, rfl⟩ := hI
          have x15 : kK S1 15 = 0 := (hAW.2.1 15 (lt35 (by decide)) (by decide)).2.trans h15
          have x9 : S1.1 9 = S.1 9 := hAW.1 9 (by decide)
          have x10 : S1.1 10 = S.1 10 := hAW.1 10 (by decide)
          obtain ⟨yT, yV, yB, yX⟩ := hp1.1.2.1
          have yt1 := hp1.2.1
          have i5 : i ≤ 5 := by omega
          refine lv_iload hx hb dX5_copied_141 (lv_at hl 6 rfl) ?_
          refine lv_iload hx hb dX5_copied_143 (lv_at hl 5 rfl) ?_
          refine lv_icmp_ge (tgt := 201) hx hb dX5_copied_145 (by decide) (fun c_171 => ?_) (fun c_171 => ?_)
          · skip
            refine lv_aload_n hx hb dX5_copied_201 rfl (lv_at hl 0 rfl) ?_
            refine va_get (D := gD G) (ci := 5) (v := .ref (ga G 2)) (C := RX5) (T := TX5) (N := 15) hx hb htu cu_in5 hown hK hP 4 cw_4 rfl 1 (by decide) (htu _ C_45) (fun _ h9 => h9) rfl dX5_copied_202 ?_
            refine lv_iload hx hb dX5_copied_205 (lv_at hl 4 rfl) ?_
            have hC0 := hC
            refine c_ci (c_runV (As := [.int (nI Y)]) (rest := []) (q0 := 2) (ci := 4) ⟨hx, hb, hml, hown, htu⟩ (y_addRecord l G S1 T1 V1 V1 X1 (Y + i) Z Y hC hp1.1 ((by omega)) ((by omega)) ((by omega)) H) (cwV 1 htu hU_X5_165 rfl rfl rfl (by decide +kernel) ⟨show 4 + 1 ≤ (fu + 1) + 4 by omega, show 8 + (6 + 11) + 128 ≤ 42 * (fu + 1) + 140 by omega⟩) hP hK hD hC hpp cw_2 rfl rfl hl.1 rfl (lv_room (Nat.le_of_ble_eq_true rfl)) dX5_copied_207) hS hD hh hpp (fun r_172 S_173 H locs hw_174 hP hD hS hC hh hs_175 hpp => ?_)
            try dsimp only at hw_174
            have aw_176 : AW [6, 7, 8, 9, 16, 10, 11, 12, 13] [] S1 S_173 := hw_174.1
            have aw_176t : AW [6, 7, 8, 9, 16, 14, 10, 11, 12, 13, 25, 26, 35] [] S S_173 := hAW.tr (aw_176.mono (by decide) (by decide))
            have kk_177 : kK S_173 15 = 0 := (aw_176.2.1 15 (lt35 (by decide)) (by decide)).2.trans x15
            have ii_178 : S_173.1 9 = S.1 9 := (aw_176.1 9 (by decide)).trans x9
            have ii_179 : S_173.1 10 = S.1 10 := (aw_176.1 10 (by decide)).trans x10
            rcases hw_174.2 with ⟨ty_180v, ty_180s⟩ | ⟨ty_180v, ty_180t, ty_180, ty_180o⟩
            · skip
              subst ty_180v
              exact c_iret (v := (-6)) hx hb hr hK hP hD hS hC hh hpp ⟨aw_176t, ⟨T1, V1, X1, Y + i, (by rw [ty_180s]; exact hp1), by omega, by omega, fun h => absurd (by decide) h⟩⟩ dX5_copied_210 hlocks
            · skip
              subst ty_180v
              exact c_iret (v := nI T1) hx hb hr hK hP hD hS hC hh hpp ⟨aw_176t, ⟨_, _, _, _, hp1.step ty_180 (Nat.le_succ _) ty_180o (aw_176.bnd (by decide) yB), Nat.le_refl _, Nat.le_add_right _ _, fun _ => rfl⟩⟩ dX5_copied_210 hlocks
          · skip
            refine lv_aload_n hx hb dX5_copied_148 rfl (lv_at hl 0 rfl) ?_
            refine lv_aload_n hx hb dX5_copied_149 rfl (lv_at hl 0 rfl) ?_
            refine va_get (D := gD G) (ci := 5) (v := .ref (ga G 2)) (C := RX5) (T := TX5) (N := 15) hx hb htu cu_in5 hown hK hP 4 cw_4 rfl 1 (by decide) (htu _ C_45) (fun _ h9 => h9) rfl dX5_copied_150 ?_
            refine lv_iload_n hx hb dX5_copied_153 rfl (lv_at hl 1 rfl) ?_
            refine lv_iload hx hb dX5_copied_154 (lv_at hl 6 rfl) ?_
            have hC0 := hC
            refine c_ci (c_runV (As := [.int t, .int (nI i)]) (rest := [.ref (ga G 4)]) (q0 := 2) (ci := 4) ⟨hx, hb, hml, hown, htu⟩ (y_partAt l G S1 t (nI i) hC  H) (cwV 2 htu hU_X5_193 rfl rfl rfl (by decide +kernel) ⟨show 1 + 1 ≤ (fu + 1) + 4 by omega, show 8 + (3 + 11) + 21 ≤ 42 * (fu + 1) + 140 by omega⟩) hP hK hD hC hpp cw_2 rfl rfl hl.1 rfl (lv_room (Nat.le_of_ble_eq_true rfl)) dX5_copied_156) hS hD hh hpp (fun r_181 S_182 H locs hw_183 hP hD hS hC hh hs_184 hpp => ?_)
            obtain ⟨-, hu9⟩ := hw_183
            have hu9 := hu9.symm
            subst hu9
            refine lv_iload_n hx hb dX5_copied_159 rfl (lv_at hl 2 rfl) ?_
            refine lv_iload_n hx hb dX5_copied_160 rfl (lv_at hl 3 rfl) ?_
            refine lv_iconst (v := 1) hx hb dX5_copied_161 (by decide) ?_
            refine lv_iadd hx hb dX5_copied_162 ?_
            refine m_top (y := nI (dp + 1)) (nI_1 dp) ?_
            have hC0 := hC
            refine c_ci (c_runV (As := [.int r_181, .int 2, .int (nI (dp + 1))]) (rest := []) (q0 := 4) (ci := 5) ⟨hx, hb, hml, hown, htu⟩ (ih l G S1 T1 V1 X1 (Y + i) Z K 0 (dp + 1) 2 r_181 hC hp1.1 hp1.2.2.2.2.2 hKK x15 ((Or.inl ⟨rfl, rfl⟩)) ((by decide)) ((by omega)) ((by omega)) ((by rw [x10]; exact hlev)) ((fun h => absurd rfl h)) H) (cwV 3 htu hU_X5_131 rfl rfl rfl (by decide +kernel) ⟨show (fu + 4) + 1 ≤ (fu + 1) + 4 by omega, show 8 + (12 + 11) + (42 * fu + 140) ≤ 42 * (fu + 1) + 140 by omega⟩) hP hK hD hC hpp cw_4 rfl rfl hl.1 rfl (lv_room (Nat.le_of_ble_eq_true rfl)) dX5_copied_163) hS hD hh hpp (fun r_185 S_186 H locs hw_187 hP hD hS hC hh hs_188 hpp => ?_)
            try dsimp only at hw_187
            have aw_189 : AW [6, 7, 8, 9, 16, 14, 10, 11, 12, 13, 25, 26, 35] [] S1 S_186 := hw_187.1
            have aw_189t : AW [6, 7, 8, 9, 16, 14, 10, 11, 12, 13, 25, 26, 35] [] S S_186 := hAW.tr (aw_189.mono (by decide) (by decide))
            have kk_190 : kK S_186 15 = 0 := (aw_189.2.1 15 (lt35 (by decide)) (by decide)).2.trans x15
            have ii_191 : S_186.1 9 = S.1 9 := (aw_189.1 9 (by decide)).trans x9
            have ii_192 : S_186.1 10 = S.1 10 := (aw_189.1 10 (by decide)).trans x10
            obtain ⟨cx_193T, cx_193V, cx_193X, cx_193Y, cx_193R, cx_193a, cx_193b, cx_193c⟩ := hw_187.2
            have cx_193h := hp1.tr cx_193R
            obtain ⟨-, cx_193t1, cx_193t2, -⟩ := id cx_193R
            obtain ⟨cx_193u1, cx_193u2, cx_193u3, cx_193u4⟩ := cx_193R.1.2.1
            refine lv_istore (lv' := [(8, .int r_185), (0, .ref (ga G 4)), (1, .int t), (2, .int 2), (3, .int (nI dp)), (5, .int (nI Y)), (6, .int r_157), (7, .int (nI i))]) hx hb dX5_copied_166 hl (by decide) rfl (fun ls hl => ?_)
            refine lv_iload hx hb dX5_copied_168 (lv_at hl 0 rfl) ?_
            refine lv_if_ge (tgt := 176) hx hb dX5_copied_170 (by decide) (fun c_194 => ?_) (fun c_194 => ?_)
            · skip
              have cx_193e : cx_193Y = Y + i := cx_193c (Int32.not_lt.mpr c_194)
              rw [cx_193e] at cx_193h
              refine lv_aload_n hx hb dX5_copied_176 rfl (lv_at hl 1 rfl) ?_
              refine va_get (D := gD G) (ci := 5) (v := .ref (ga G 2)) (C := RX5) (T := TX5) (N := 15) hx hb htu cu_in5 hown hK hP 4 cw_4 rfl 1 (by decide) (htu _ C_45) (fun _ h9 => h9) rfl dX5_copied_177 ?_
              refine lv_aload_n hx hb dX5_copied_180 rfl (lv_at hl 1 rfl) ?_
              refine va_get (D := gD G) (ci := 5) (v := .ref (ga G 2)) (C := RX5) (T := TX5) (N := 15) hx hb htu cu_in5 hown hK hP 4 cw_4 rfl 1 (by decide) (htu _ C_45) (fun _ h9 => h9) rfl dX5_copied_181 ?_
              refine lv_iload_n hx hb dX5_copied_184 rfl (lv_at hl 2 rfl) ?_
              refine lv_iload hx hb dX5_copied_185 (lv_at hl 7 rfl) ?_
              have hC0 := hC
              refine c_ci (c_runV (As := [.int t, .int (nI i)]) (rest := [.ref (ga G 2)]) (q0 := 2) (ci := 4) ⟨hx, hb, hml, hown, htu⟩ (y_labelAt l G S_186 t (nI i) hC  H) (cwV 2 htu hU_X5_187 rfl rfl rfl (by decide +kernel) ⟨show 1 + 1 ≤ (fu + 1) + 4 by omega, show 8 + (3 + 11) + 21 ≤ 42 * (fu + 1) + 140 by omega⟩) hP hK hD hC hpp cw_2 rfl rfl hl.1 rfl (lv_room (Nat.le_of_ble_eq_true rfl)) dX5_copied_187) hS hD hh hpp (fun r_195 S_196 H locs hw_197 hP hD hS hC hh hs_198 hpp => ?_)
              obtain ⟨-, hu9⟩ := hw_197
              have hu9 := hu9.symm
              subst hu9
              refine lv_iload hx hb dX5_copied_190 (lv_at hl 0 rfl) ?_
              have hC0 := hC
              refine c_cv (c_runV (As := [.int r_195, .int r_185]) (rest := []) (q0 := 2) (ci := 4) ⟨hx, hb, hml, hown, htu⟩ (y_stage l G S_186 cx_193T cx_193V cx_193V cx_193X (Y + i) Z r_195 r_185 hC cx_193h.1 ((by omega)) H) (cwV 2 htu hU_X5_162 rfl rfl rfl (by decide +kernel) ⟨show 3 + 1 ≤ (fu + 1) + 4 by omega, show 8 + (3 + 11) + 103 ≤ 42 * (fu + 1) + 140 by omega⟩) hP hK hD hC hpp cw_2 rfl rfl hl.1 rfl (lv_room (Nat.le_of_ble_eq_true rfl)) dX5_copied_192) hS hD hh hpp (fun S_200 H locs hw_201 hP hD hS hC hh hs_202 hpp => ?_)
              try dsimp only at hw_201
              have aw_203 : AW [12, 13] [] S_186 S_200 := hw_201.1
              have aw_203t : AW [6, 7, 8, 9, 16, 14, 10, 11, 12, 13, 25, 26, 35] [] S S_200 := aw_189t.tr (aw_203.mono (by decide) (by decide))
              have kk_204 : kK S_200 15 = 0 := (aw_203.2.1 15 (lt35 (by decide)) (by decide)).2.trans kk_190
              have ii_205 : S_200.1 9 = S.1 9 := (aw_203.1 9 (by decide)).trans ii_191
              have ii_206 : S_200.1 10 = S.1 10 := (aw_203.1 10 (by decide)).trans ii_192
              have ty_207 := hw_201.2
              have cs_208 := cx_193h.step ty_207 (Nat.le_refl _) (OC.aw aw_203 (by decide)) (aw_203.bnd (by decide) cx_193u3)
              refine lv_iinc (v := nI (i + 1)) (lv' := [(7, .int (nI (i + 1))), (8, .int r_185), (0, .ref (ga G 4)), (1, .int t), (2, .int 2), (3, .int (nI dp)), (5, .int (nI Y)), (6, .int r_157)]) hx hb dX5_copied_195 hl (k := 7) rfl (nI_1 i) (by decide) rfl (fun ls hl => ?_)
              refine lv_goto (tgt := 141) hx hb dX5_copied_198 (by decide) ?_
              exact ih9 _ _ _ _ _ ⟨S_200, cx_193T, cx_193V, cx_193X, i + 1, ls, hC, hh, hpp, aw_203t, by omega, cs_208, rfl, rfl, hP, hD, hS, lv_sub hl [2, 3, 4, 5, 6, 7, 0] rfl, rfl⟩
            · skip
              refine lv_iload hx hb dX5_copied_173 (lv_at hl 0 rfl) ?_
              exact c_iret (v := r_185) hx hb hr hK hP hD hS hC hh hpp ⟨aw_189t, ⟨cx_193T, cx_193V, cx_193X, cx_193Y, cx_193h, by omega, by omega, fun h => absurd (Int32.not_le.mp c_194) h⟩⟩ dX5_copied_175 hlocks
    · skip
      refine lv_aload_n hx hb dX5_copied_42 rfl (lv_at hl 1 rfl) ?_
      refine lv_aload_n hx hb dX5_copied_43 rfl (lv_at hl 1 rfl) ?_
      refine va_get (D := gD G) (ci := 5) (v := .ref (ga G 2)) (C := RX5) (T := TX5) (N := 15) hx hb htu cu_in5 hown hK hP 4 cw_4 rfl 1 (by decide) (htu _ C_45) (fun _ h9 => h9) rfl dX5_copied_44 ?_
      refine lv_iload_n hx hb dX5_copied_47 rfl (lv_at hl 2 rfl) ?_
      have hC0 := hC
      refine c_ci (c_runV (As := [.int t]) (rest := [.ref (ga G 4)]) (q0 := 2) (ci := 4) ⟨hx, hb, hml, hown, htu⟩ (y_firstOf l G S t hC  H) (cwV 1 htu hU_X5_178 rfl rfl rfl (by decide +kernel) ⟨show 1 + 1 ≤ (fu + 1) + 4 by omega, show 8 + (2 + 11) + 21 ≤ 42 * (fu + 1) + 140 by omega⟩) hP hK hD hC hpp cw_2 rfl rfl hl.1 rfl (lv_room (Nat.le_of_ble_eq_true rfl)) dX5_copied_48) hS hD hh hpp (fun r_209 S_210 H locs hw_211 hP hD hS hC hh hs_212 hpp => ?_)
      obtain ⟨-, hu9, hw_211⟩ := hw_211
      have hu9 := hu9.symm
      subst hu9
      refine lv_iload_n hx hb dX5_copied_51 rfl (lv_at hl 3 rfl) ?_
      have hC0 := hC
      refine c_ci (c_runS (As := [.int 2]) (rest := [.int r_209, .ref (ga G 4)]) ⟨hx, hb, hml, hown, htu⟩ (g_otherWay l G S 2 hC  H) (va_cwS 1 htu hU_X5_221 rfl rfl rfl (by decide +kernel) ⟨show 0 + 1 ≤ (fu + 1) + 4 by omega, show 8 + (1 + 11) + 0 ≤ 42 * (fu + 1) + 140 by omega⟩) hP hK hD hC hpp rfl hl.1 rfl (lv_room (Nat.le_of_ble_eq_true rfl)) dX5_copied_52) hS hD hh hpp (fun r_213 S_214 H locs hw_215 hP hD hS hC hh hs_216 hpp => ?_)
      obtain ⟨-, hu9, hw_215⟩ := hw_215
      have hu9 := hu9.symm
      subst hu9
      obtain rfl : r_213 = 2 := hw_215.trans (by decide)
      refine lv_iload_n hx hb dX5_copied_55 rfl (lv_at hl 4 rfl) ?_
      refine lv_iconst (v := 1) hx hb dX5_copied_56 (by decide) ?_
      refine lv_iadd hx hb dX5_copied_57 ?_
      refine m_top (y := nI (dp + 1)) (nI_1 dp) ?_
      have hC0 := hC
      refine c_ci (c_runV (As := [.int r_209, .int 2, .int (nI (dp + 1))]) (rest := []) (q0 := 4) (ci := 5) ⟨hx, hb, hml, hown, htu⟩ (ih l G S T V X Y Z K 0 (dp + 1) 2 r_209 hC cr0.1 cr0.2.2.2.2.2 hKK h15 ((Or.inl ⟨rfl, rfl⟩)) ((by decide)) ((by omega)) ((by omega)) hlev ((fun h => absurd rfl h)) H) (cwV 3 htu hU_X5_131 rfl rfl rfl (by decide +kernel) ⟨show (fu + 4) + 1 ≤ (fu + 1) + 4 by omega, show 8 + (12 + 11) + (42 * fu + 140) ≤ 42 * (fu + 1) + 140 by omega⟩) hP hK hD hC hpp cw_4 rfl rfl hl.1 rfl (lv_room (Nat.le_of_ble_eq_true rfl)) dX5_copied_58) hS hD hh hpp (fun r_217 S_218 H locs hw_219 hP hD hS hC hh hs_220 hpp => ?_)
      try dsimp only at hw_219
      have aw_221 : AW [6, 7, 8, 9, 16, 14, 10, 11, 12, 13, 25, 26, 35] [] S S_218 := hw_219.1
      have aw_221t : AW [6, 7, 8, 9, 16, 14, 10, 11, 12, 13, 25, 26, 35] [] S S_218 := AW.rf.tr (aw_221.mono (by decide) (by decide))
      have kk_222 : kK S_218 15 = 0 := (aw_221.2.1 15 (lt35 (by decide)) (by decide)).2.trans h15
      have ii_223 : S_218.1 9 = S.1 9 := (aw_221.1 9 (by decide)).trans rfl
      have ii_224 : S_218.1 10 = S.1 10 := (aw_221.1 10 (by decide)).trans rfl
      obtain ⟨cx_225T, cx_225V, cx_225X, cx_225Y, cx_225R, cx_225a, cx_225b, cx_225c⟩ := hw_219.2
      have cx_225h := cr0.tr cx_225R
      obtain ⟨-, cx_225t1, cx_225t2, -⟩ := id cx_225R
      obtain ⟨cx_225u1, cx_225u2, cx_225u3, cx_225u4⟩ := cx_225R.1.2.1
      refine lv_istore (lv' := [(5, .int r_217), (4, .int r_7), (0, .ref (ga G 4)), (1, .int t), (2, .int 2), (3, .int (nI dp))]) hx hb dX5_copied_61 hl (by decide) rfl (fun ls hl => ?_)
      refine lv_iload hx hb dX5_copied_63 (lv_at hl 0 rfl) ?_
      refine lv_if_ge (tgt := 73) hx hb dX5_copied_65 (by decide) (fun c_226 => ?_) (fun c_226 => ?_)
      · skip
        have cx_225e : cx_225Y = Y := cx_225c (Int32.not_lt.mpr c_226)
        rw [cx_225e] at cx_225h
        refine lv_aload_n hx hb dX5_copied_73 rfl (lv_at hl 2 rfl) ?_
        refine lv_aload_n hx hb dX5_copied_74 rfl (lv_at hl 2 rfl) ?_
        refine va_get (D := gD G) (ci := 5) (v := .ref (ga G 2)) (C := RX5) (T := TX5) (N := 15) hx hb htu cu_in5 hown hK hP 4 cw_4 rfl 1 (by decide) (htu _ C_45) (fun _ h9 => h9) rfl dX5_copied_75 ?_
        refine lv_iload_n hx hb dX5_copied_78 rfl (lv_at hl 3 rfl) ?_
        have hC0 := hC
        refine c_ci (c_runV (As := [.int t]) (rest := [.ref (ga G 4)]) (q0 := 2) (ci := 4) ⟨hx, hb, hml, hown, htu⟩ (y_secondOf l G S_218 t hC  H) (cwV 1 htu hU_X5_181 rfl rfl rfl (by decide +kernel) ⟨show 1 + 1 ≤ (fu + 1) + 4 by omega, show 8 + (2 + 11) + 21 ≤ 42 * (fu + 1) + 140 by omega⟩) hP hK hD hC hpp cw_2 rfl rfl hl.1 rfl (lv_room (Nat.le_of_ble_eq_true rfl)) dX5_copied_79) hS hD hh hpp (fun r_227 S_228 H locs hw_229 hP hD hS hC hh hs_230 hpp => ?_)
        obtain ⟨-, hu9, hw_229⟩ := hw_229
        have hu9 := hu9.symm
        subst hu9
        refine lv_iload_n hx hb dX5_copied_82 rfl (lv_at hl 4 rfl) ?_
        refine lv_iload_n hx hb dX5_copied_83 rfl (lv_at hl 5 rfl) ?_
        refine lv_iconst (v := 1) hx hb dX5_copied_84 (by decide) ?_
        refine lv_iadd hx hb dX5_copied_85 ?_
        refine m_top (y := nI (dp + 1)) (nI_1 dp) ?_
        have hC0 := hC
        refine c_ci (c_runV (As := [.int r_227, .int 2, .int (nI (dp + 1))]) (rest := []) (q0 := 4) (ci := 5) ⟨hx, hb, hml, hown, htu⟩ (ih l G S_218 cx_225T cx_225V cx_225X Y Z K 0 (dp + 1) 2 r_227 hC cx_225h.1 cx_225h.2.2.2.2.2 hKK kk_222 ((Or.inl ⟨rfl, rfl⟩)) ((by decide)) ((by omega)) ((by omega)) ((by rw [ii_224]; exact hlev)) ((fun h => absurd rfl h)) H) (cwV 3 htu hU_X5_131 rfl rfl rfl (by decide +kernel) ⟨show (fu + 4) + 1 ≤ (fu + 1) + 4 by omega, show 8 + (12 + 11) + (42 * fu + 140) ≤ 42 * (fu + 1) + 140 by omega⟩) hP hK hD hC hpp cw_4 rfl rfl hl.1 rfl (lv_room (Nat.le_of_ble_eq_true rfl)) dX5_copied_86) hS hD hh hpp (fun r_231 S_232 H locs hw_233 hP hD hS hC hh hs_234 hpp => ?_)
        try dsimp only at hw_233
        have aw_235 : AW [6, 7, 8, 9, 16, 14, 10, 11, 12, 13, 25, 26, 35] [] S_218 S_232 := hw_233.1
        have aw_235t : AW [6, 7, 8, 9, 16, 14, 10, 11, 12, 13, 25, 26, 35] [] S S_232 := aw_221t.tr (aw_235.mono (by decide) (by decide))
        have kk_236 : kK S_232 15 = 0 := (aw_235.2.1 15 (lt35 (by decide)) (by decide)).2.trans kk_222
        have ii_237 : S_232.1 9 = S.1 9 := (aw_235.1 9 (by decide)).trans ii_223
        have ii_238 : S_232.1 10 = S.1 10 := (aw_235.1 10 (by decide)).trans ii_224
        obtain ⟨cx_239T, cx_239V, cx_239X, cx_239Y, cx_239R, cx_239a, cx_239b, cx_239c⟩ := hw_233.2
        have cx_239h := cx_225h.tr cx_239R
        obtain ⟨-, cx_239t1, cx_239t2, -⟩ := id cx_239R
        obtain ⟨cx_239u1, cx_239u2, cx_239u3, cx_239u4⟩ := cx_239R.1.2.1
        refine lv_istore (lv' := [(6, .int r_231), (5, .int r_217), (4, .int r_7), (0, .ref (ga G 4)), (1, .int t), (2, .int 2), (3, .int (nI dp))]) hx hb dX5_copied_89 hl (by decide) rfl (fun ls hl => ?_)
        refine lv_iload hx hb dX5_copied_91 (lv_at hl 0 rfl) ?_
        refine lv_if_ge (tgt := 101) hx hb dX5_copied_93 (by decide) (fun c_240 => ?_) (fun c_240 => ?_)
        · skip
          have cx_239e : cx_239Y = Y := cx_239c (Int32.not_lt.mpr c_240)
          rw [cx_239e] at cx_239h
          refine lv_aload_n hx hb dX5_copied_101 rfl (lv_at hl 3 rfl) ?_
          refine va_get (D := gD G) (ci := 5) (v := .ref (ga G 2)) (C := RX5) (T := TX5) (N := 15) hx hb htu cu_in5 hown hK hP 4 cw_4 rfl 1 (by decide) (htu _ C_45) (fun _ h9 => h9) rfl dX5_copied_102 ?_
          refine lv_iload hx hb dX5_copied_105 (lv_at hl 1 rfl) ?_
          refine lv_iload hx hb dX5_copied_107 (lv_at hl 0 rfl) ?_
          have hC0 := hC
          refine c_ci (c_runV (As := [.int r_217, .int r_231]) (rest := []) (q0 := 2) (ci := 4) ⟨hx, hb, hml, hown, htu⟩ (y_addFunction l G S_232 cx_239T cx_239V cx_239V cx_239X Y Z r_217 r_231 hC cx_239h.1 H) (cwV 2 htu hU_X5_147 rfl rfl rfl (by decide +kernel) ⟨show 4 + 1 ≤ (fu + 1) + 4 by omega, show 8 + (3 + 11) + 128 ≤ 42 * (fu + 1) + 140 by omega⟩) hP hK hD hC hpp cw_2 rfl rfl hl.1 rfl (lv_room (Nat.le_of_ble_eq_true rfl)) dX5_copied_109) hS hD hh hpp (fun r_241 S_242 H locs hw_243 hP hD hS hC hh hs_244 hpp => ?_)
          try dsimp only at hw_243
          have aw_245 : AW [6, 7, 8, 9, 16] [] S_232 S_242 := hw_243.1
          have aw_245t : AW [6, 7, 8, 9, 16, 14, 10, 11, 12, 13, 25, 26, 35] [] S S_242 := aw_235t.tr (aw_245.mono (by decide) (by decide))
          have kk_246 : kK S_242 15 = 0 := (aw_245.2.1 15 (lt35 (by decide)) (by decide)).2.trans kk_236
          have ii_247 : S_242.1 9 = S.1 9 := (aw_245.1 9 (by decide)).trans ii_237
          have ii_248 : S_242.1 10 = S.1 10 := (aw_245.1 10 (by decide)).trans ii_238
          rcases hw_243.2 with ⟨ty_249v, ty_249s⟩ | ⟨ty_249v, ty_249t, ty_249, ty_249o⟩
          · skip
            subst ty_249v
            exact c_iret (v := (-6)) hx hb hr hK hP hD hS hC hh hpp ⟨aw_245t, ⟨cx_239T, cx_239V, cx_239X, Y, (by rw [ty_249s]; exact cx_239h), by omega, by omega, fun h => absurd (by decide) h⟩⟩ dX5_copied_112 hlocks
          · skip
            subst ty_249v
            exact c_iret (v := nI cx_239T) hx hb hr hK hP hD hS hC hh hpp ⟨aw_245t, ⟨_, _, _, _, cx_239h.step ty_249 (Nat.le_succ _) ty_249o (aw_245.bnd (by decide) cx_239h.1.2.1.2.2.1), Nat.le_refl _, Nat.le_add_right _ _, fun _ => rfl⟩⟩ dX5_copied_112 hlocks
        · skip
          refine lv_iload hx hb dX5_copied_96 (lv_at hl 0 rfl) ?_
          refine lv_goto (tgt := 112) hx hb dX5_copied_98 (by decide) ?_
          exact c_iret (v := r_231) hx hb hr hK hP hD hS hC hh hpp ⟨aw_235t, ⟨cx_239T, cx_239V, cx_239X, cx_239Y, cx_239h, by omega, by omega, fun h => absurd (Int32.not_le.mp c_240) h⟩⟩ dX5_copied_112 hlocks
      · skip
        refine lv_iload hx hb dX5_copied_68 (lv_at hl 0 rfl) ?_
        refine lv_goto (tgt := 89) hx hb dX5_copied_70 (by decide) ?_
        refine lv_istore (lv' := [(6, .int r_217), (5, .int r_217), (4, .int r_7), (0, .ref (ga G 4)), (1, .int t), (2, .int 2), (3, .int (nI dp))]) hx hb dX5_copied_89 hl (by decide) rfl (fun ls hl => ?_)
        refine lv_iload hx hb dX5_copied_91 (lv_at hl 0 rfl) ?_
        refine lv_if_ge (tgt := 101) hx hb dX5_copied_93 (by decide) (fun c_250 => absurd c_250 c_226) (fun c_250 => ?_)
        refine lv_iload hx hb dX5_copied_96 (lv_at hl 0 rfl) ?_
        refine lv_goto (tgt := 112) hx hb dX5_copied_98 (by decide) ?_
        exact c_iret (v := r_217) hx hb hr hK hP hD hS hC hh hpp ⟨aw_221t, ⟨cx_225T, cx_225V, cx_225X, cx_225Y, cx_225h, by omega, by omega, fun h => absurd (Int32.not_le.mp c_226) h⟩⟩ dX5_copied_112 hlocks
  · skip
    refine lv_iload_n hx hb dX5_copied_24 rfl (lv_at hl 1 rfl) ?_
    exact c_iret (v := t) hx hb hr hK hP hD hS hC hh hpp ⟨AW.rf, ⟨T, V, X, Y, cr0, by omega, by omega, fun _ => by omega⟩⟩ dX5_copied_25 hlocks

