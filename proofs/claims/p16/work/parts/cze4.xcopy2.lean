set_option maxHeartbeats 4000000 in
set_option maxRecDepth 100000 in
/-- copied, way 2 -/
theorem x_copied_s2 (l : Launch) (G : cG) (S : cS) (fu : Nat) (T : Nat) (V : Nat) (X : Nat) (Y : Nat) (Z : Nat) (K : Nat) (dp : Nat) (z : aS) (t9 : Nat) (ab : Nat) (lv : Nat) (tm : Nat) (hC : CL S) (ih : xCopiedAt fu) (hY : TY S T V V X Y Z) (hBD : ∀ j, j < 2 * V → kK S (35 + j) ≤ K + V) (hKK : K ≤ 1501) (h15 : kK S 15 = 0) (hdp : dp + (fu + 1) = 61) (hY2 : Y + 6 * (fu + 1) ≤ 900) (h8 : S.1 8 = nI tm) (h9 : S.1 9 = nI ab) (h10 : S.1 10 = nI lv) (htm : tm < 2 ^ 30) (hlv : lv ≤ 100) (hab : ab ≤ 100) (hz : KT S z) (hm : KM S z tm) (hkq : KQ S z) (h0 : sto z = 0) (ht : t9 < nT z) (Hs : Heap) : Met l yX5_copied (wC yX5_copied cX5_copied 12 (some .int)) (cRm S ((fu + 1) + 4) (42 * (fu + 1) + 140)) (cPc G S Hs [.ref (ga G 4), .int (nI t9), .int 2, .int (nI dp)]) (cQi G S Hs (fun v u => AW [6, 7, 8, 9, 16, 14, 10, 11, 12, 13, 25, 26, 35] [] S u ∧ (CX S u T V Y Z K 0 (fu + 1) v ∧ XE S u Y tm (cp ((fu + 1)) z t9 2 ab lv) v))) (CC - PT S) (12 * (CC - PT S)) (cA G S Hs.size) := by
  refine Met.ofW (cc := cX5_copied) (maxL := 12) (ret := (some .int)) (by decide) rfl ?_
  intro p e s m args below meth c s₁ B hml hv
  obtain ⟨rfl, hsz, hP, hK, hD0, -⟩ := hv
  have hx := B.exec
  have hb := B.bytes
  have hr := B.returns
  have htu : ∀ w ∈ CU, w.before _ s = true := fun w h => atoms_spec (ws := (wC yX5_copied cX5_copied 12 (some .int))) B.pre w (List.mem_cons_of_mem _ h)
  have hown : s.vm.findClass RX5 = some m.cls := findClass_of_methodNamed B.named
  have hlocks := B.notSynchronized
  subst hsz
  have hD : cD (cA G S s.heap.size) G S := cD_self hD0
  have hl := lv_entry ([.ref (ga G 4), .int (nI t9), .int 2, .int (nI dp)]) (n := 12) (Nat.le_of_ble_eq_true rfl)
  rw [lg_entry_eq]
  generalize (lg_sl ([.ref (ga G 4), .int (nI t9), .int 2, .int (nI dp)]) ++ List.replicate (12 - (lg_sl ([.ref (ga G 4), .int (nI t9), .int 2, .int (nI dp)])).length) Slot.unset).toArray = ls at hl ⊢
  have hl : lv_has ls 12 [(0, .ref (ga G 4)), (1, .int (nI t9)), (2, .int 2), (3, .int (nI dp))] := hl
  obtain ⟨H, hHe⟩ : ∃ H : Heap, H = s.heap := ⟨_, rfl⟩
  rw [← hHe] at hP
  have hS : va_S (cA G S s.heap.size) s.heap H [] := by rw [hHe]; exact va_S.rf
  have hh : HS S S := HS.rf
  have hpp : PT S ≤ PT S := Nat.le_refl _
  have hB9 := hC.1
  refine W.heq hHe ?_
  refine c_ent (S := S) ?_
  obtain ⟨⟨k6, k7, k8, k9, k16, k14, k10, k11, k12, k13, k17, k18⟩, ⟨tT, tV, tB, tX⟩, tv, tr, ts⟩ := id hY
  have cr0 : CR S S T V K 0 T V X Y Z := CR.rf hY hBD
  have rk := hz.ks4 ht
  have rl := hz.lv ht
  have hTz : nT z = T := hz.1.1.symm.trans k6
  have hVz : nV z = V := hz.1.2.2.2.2.1.symm.trans k14
  refine lv_iload_n hx hb dX5_copied_0 rfl (lv_at hl 3 rfl) ?_
  refine lv_bipush (v := 60) hx hb dX5_copied_1 (by decide) ?_
  refine lv_icmp_le (tgt := 9) hx hb dX5_copied_3 (by decide) (fun c_1 => ?_) (fun c_1 => absurd ((nI_leI (a := dp) (b := 60) (by omega) (by omega)).mpr (by omega)) c_1)
  refine lv_aload_n hx hb dX5_copied_9 rfl (lv_at hl 0 rfl) ?_
  refine va_get (D := gD G) (ci := 5) (v := .ref (ga G 2)) (C := RX5) (T := TX5) (N := 15) hx hb htu cu_in5 hown hK hP 4 cw_4 rfl 1 (by decide) (htu _ C_45) (fun _ h9 => h9) rfl dX5_copied_10 ?_
  refine lv_iload_n hx hb dX5_copied_13 rfl (lv_at hl 1 rfl) ?_
  have hC0 := hC
  refine c_ci (c_runV (As := [.int (nI t9)]) (rest := []) (q0 := 2) (ci := 4) ⟨hx, hb, hml, hown, htu⟩ (y_levelOf l G S (nI t9) hC  H) (cwV 1 htu hU_X5_206 rfl rfl rfl (by decide +kernel) ⟨show 1 + 1 ≤ (fu + 1) + 4 by omega, show 8 + (2 + 11) + 21 ≤ 42 * (fu + 1) + 140 by omega⟩) hP hK hD hC hpp cw_2 rfl rfl hl.1 rfl (lv_room (Nat.le_of_ble_eq_true rfl)) dX5_copied_14) hS hD hh hpp (fun r_2 S_3 H locs hw_4 hP hD hS hC hh hs_5 hpq => ?_)
  clear hpp
  have hpp := hpq
  clear hpq
  obtain ⟨-, hu9, hw_4⟩ := hw_4
  have hu9 := hu9.symm
  subst hu9
  obtain rfl : r_2 = nI (lev z t9) := hw_4.trans (hz.rl ht)
  refine lv_aload_n hx hb dX5_copied_17 rfl (lv_at hl 0 rfl) ?_
  refine va_get (D := gD G) (ci := 5) (v := .int (nI ab)) (C := RX5) (T := TX5) (N := 15) hx hb htu cu_in5 hown hK hP 4 cw_4 rfl 9 (by decide) (htu _ C_307) (fun _ h9 => h9) (m_v h9) dX5_copied_18 ?_
  refine lv_icmp_gt (tgt := 26) hx hb dX5_copied_21 (by decide) (fun c_6 => ?_) (fun c_6 => ?_)
  · skip
    have nc_6 : ab < lev z t9 := (nI_ltI (a := ab) (b := lev z t9) (by omega) (by omega)).mp c_6
    refine lv_aload_n hx hb dX5_copied_26 rfl (lv_at hl 0 rfl) ?_
    refine va_get (D := gD G) (ci := 5) (v := .ref (ga G 2)) (C := RX5) (T := TX5) (N := 15) hx hb htu cu_in5 hown hK hP 4 cw_4 rfl 1 (by decide) (htu _ C_45) (fun _ h9 => h9) rfl dX5_copied_27 ?_
    refine lv_iload_n hx hb dX5_copied_30 rfl (lv_at hl 1 rfl) ?_
    have hC0 := hC
    refine c_ci (c_runV (As := [.int (nI t9)]) (rest := []) (q0 := 2) (ci := 4) ⟨hx, hb, hml, hown, htu⟩ (y_sortOf l G S (nI t9) hC  H) (cwV 1 htu hU_X5_209 rfl rfl rfl (by decide +kernel) ⟨show 1 + 1 ≤ (fu + 1) + 4 by omega, show 8 + (2 + 11) + 21 ≤ 42 * (fu + 1) + 140 by omega⟩) hP hK hD hC hpp cw_2 rfl rfl hl.1 rfl (lv_room (Nat.le_of_ble_eq_true rfl)) dX5_copied_31) hS hD hh hpp (fun r_7 S_8 H locs hw_9 hP hD hS hC hh hs_10 hpq => ?_)
    clear hpp
    have hpp := hpq
    clear hpq
    obtain ⟨-, hu9, hw_9⟩ := hw_9
    have hu9 := hu9.symm
    subst hu9
    obtain rfl : r_7 = nI (ks z t9) := hw_9.trans (hz.rs ht)
    have hgt : ¬ lev z t9 ≤ ab := by have := nc_6; omega
    refine lv_istore (lv' := [(4, .int (nI (ks z t9))), (0, .ref (ga G 4)), (1, .int (nI t9)), (2, .int 2), (3, .int (nI dp))]) hx hb dX5_copied_34 hl (by decide) rfl (fun ls hl => ?_)
    refine lv_iload hx hb dX5_copied_36 (lv_at hl 0 rfl) ?_
    refine lv_iconst (v := 2) hx hb dX5_copied_38 (by decide) ?_
    refine lv_icmp_ne (tgt := 113) hx hb dX5_copied_39 (by decide) (fun c_11 => ?_) (fun c_11 => ?_)
    · skip
      have nc_11 : ¬ ks z t9 = 2 := fun h9 => c_11 ((nI_eq (a := ks z t9) (b := 2) (by omega) (by omega)).mpr h9)
      refine lv_iload hx hb dX5_copied_113 (lv_at hl 0 rfl) ?_
      refine lv_iconst (v := 3) hx hb dX5_copied_115 (by decide) ?_
      refine lv_icmp_ne (tgt := 211) hx hb dX5_copied_116 (by decide) (fun c_12 => ?_) (fun c_12 => ?_)
      · skip
        have nc_12 : ¬ ks z t9 = 3 := fun h9 => c_12 ((nI_eq (a := ks z t9) (b := 3) (by omega) (by omega)).mpr h9)
        refine lv_iconst (v := 2) hx hb dX5_copied_211 (by decide) ?_
        refine lv_aload_n hx hb dX5_copied_212 rfl (lv_at hl 1 rfl) ?_
        refine va_get (D := gD G) (ci := 5) (v := .ref (ga G 2)) (C := RX5) (T := TX5) (N := 15) hx hb htu cu_in5 hown hK hP 4 cw_4 rfl 1 (by decide) (htu _ C_45) (fun _ h9 => h9) rfl dX5_copied_213 ?_
        refine lv_iload_n hx hb dX5_copied_216 rfl (lv_at hl 2 rfl) ?_
        have hC0 := hC
        refine c_ci (c_runV (As := [.int (nI t9)]) (rest := [.int 2]) (q0 := 2) (ci := 4) ⟨hx, hb, hml, hown, htu⟩ (x_numberOf l G S (nI t9) hC  H) (cwV 1 htu hU_X5_224 rfl rfl rfl (by decide +kernel) ⟨show 1 + 1 ≤ (fu + 1) + 4 by omega, show 8 + (2 + 11) + 21 ≤ 42 * (fu + 1) + 140 by omega⟩) hP hK hD hC hpp cw_2 rfl rfl hl.1 rfl (lv_room (Nat.le_of_ble_eq_true rfl)) dX5_copied_217) hS hD hh hpp (fun r_13 S_14 H locs hw_15 hP hD hS hC hh hs_16 hpq => ?_)
        clear hpp
        have hpp := hpq
        clear hpq
        obtain ⟨-, hu9, hw_15⟩ := hw_15
        have hu9 := hu9.symm
        subst hu9
        have hs3 : srt z t9 = 3 := hz.k3 ht nc_11 nc_12 hgt
        have hi4 : rget (kF S 6) (kK S 6) (nI t9) = 4 := (hz.is ht (k := 4) (by decide) (by decide)).mpr (by rw [hs3])
        obtain ⟨f1, f2, f3⟩ := hz.f3 ht hs3
        obtain rfl : r_13 = nI (one z t9) := (hw_15 hi4).trans f1
        clear hw_15
        have hv150 := hz.1.2.2.2.2.2.2.2.2.1
        refine lv_imul hx hb dX5_copied_220 ?_
        refine m_top (y := nI (2 * (one z t9))) (pk_mul 2 (one z t9)) ?_
        refine lv_iload_n hx hb dX5_copied_221 rfl (lv_at hl 3 rfl) ?_
        refine lv_iconst (v := 1) hx hb dX5_copied_222 (by decide) ?_
        refine lv_icmp_ne (tgt := 230) hx hb dX5_copied_223 (by decide) (fun c_17 => ?_) (fun c_17 => absurd c_17 (by decide))
        refine lv_iconst (v := 0) hx hb dX5_copied_230 (by decide) ?_
        refine lv_iadd hx hb dX5_copied_231 ?_
        refine m_top (y := nI (2 * (one z t9))) (Int32.add_zero _) ?_
        refine lv_istore (lv' := [(5, .int (nI (2 * (one z t9)))), (4, .int (nI (ks z t9))), (0, .ref (ga G 4)), (1, .int (nI t9)), (2, .int 2), (3, .int (nI dp))]) hx hb dX5_copied_232 hl (by decide) rfl (fun ls hl => ?_)
        refine lv_aload_n hx hb dX5_copied_234 rfl (lv_at hl 2 rfl) ?_
        refine va_get (D := gD G) (ci := 5) (v := .ref (kH S 26)) (C := RX5) (T := TX5) (N := 15) hx hb htu cu_in5 hown hK hP 4 cw_4 rfl 7 (by decide) (htu _ C_56) (fun _ h9 => h9) rfl dX5_copied_235 ?_
        refine lv_iload hx hb dX5_copied_238 (lv_at hl 0 rfl) ?_
        have hC0 := hC
        refine c_ci (c_runV (As := [.int (nI (2 * (one z t9)))]) (rest := []) (q0 := (2 * 26 + 13)) (ci := 0) ⟨hx, hb, hml, hown, htu⟩ (c_getA l G S 26 (lt35 (by decide)) hC (kH S 26) rfl (nI (2 * (one z t9))) H) (cwV 1 htu hU_X5_124 rfl rfl rfl (by decide +kernel) ⟨show 0 + 1 ≤ (fu + 1) + 4 by omega, show 8 + (2 + 11) + 0 ≤ 42 * (fu + 1) + 140 by omega⟩) hP hK hD hC hpp (c_hd rfl (cw_row (lt35 (by decide)))) rfl rfl hl.1 rfl (lv_room (Nat.le_of_ble_eq_true rfl)) dX5_copied_240) hS hD hh hpp (fun r_18 S_19 H locs hw_20 hP hD hS hC hh hs_21 hpq => ?_)
        clear hpp
        have hpp := hpq
        clear hpq
        obtain ⟨hu9, hw_20⟩ := hw_20
        have hu9 := hu9.symm
        subst hu9
        obtain ⟨md1, md2⟩ := hm.rd (q := 2 * one z t9) (by omega) htm
        have hmk : mkey z t9 2 = 2 * one z t9 := Nat.add_zero _
        by_cases hme : memo z (2 * one z t9) = 0
        · skip
          refine lv_aload_n hx hb dX5_copied_243 rfl (lv_at hl 2 rfl) ?_
          refine va_get (D := gD G) (ci := 5) (v := .int (nI tm)) (C := RX5) (T := TX5) (N := 15) hx hb htu cu_in5 hown hK hP 4 cw_4 rfl 8 (by decide) (htu _ C_306) (fun _ h9 => h9) (m_v h8) dX5_copied_244 ?_
          refine lv_icmp_ne (tgt := 260) hx hb dX5_copied_247 (by decide) (fun c_22 => ?_) (fun c_22 => absurd c_22 (fun h => md1 hme (hw_20.symm.trans h)))
          refine lv_aload_n hx hb dX5_copied_260 rfl (lv_at hl 2 rfl) ?_
          refine va_get (D := gD G) (ci := 5) (v := .ref (ga G 2)) (C := RX5) (T := TX5) (N := 15) hx hb htu cu_in5 hown hK hP 4 cw_4 rfl 1 (by decide) (htu _ C_45) (fun _ h9 => h9) rfl dX5_copied_261 ?_
          refine lv_aload_n hx hb dX5_copied_264 rfl (lv_at hl 2 rfl) ?_
          refine va_get (D := gD G) (ci := 5) (v := .int (nI lv)) (C := RX5) (T := TX5) (N := 15) hx hb htu cu_in5 hown hK hP 4 cw_4 rfl 10 (by decide) (htu _ C_308) (fun _ h9 => h9) (m_v h10) dX5_copied_265 ?_
          have hC0 := hC
          refine c_ci (c_runV (As := [.int (nI lv)]) (rest := []) (q0 := 2) (ci := 4) ⟨hx, hb, hml, hown, htu⟩ (x_addVariable l G S T V V X Y Z z lv hC hY rfl hz hlv H) (cwV 1 htu hU_X5_137 rfl rfl rfl (by decide +kernel) ⟨show 4 + 1 ≤ (fu + 1) + 4 by omega, show 8 + (4 + 11) + 128 ≤ 42 * (fu + 1) + 140 by omega⟩) hP hK hD hC hpp cw_2 rfl rfl hl.1 rfl (lv_room (Nat.le_of_ble_eq_true rfl)) dX5_copied_268) hS hD hh hpp (fun r_23 S_24 H locs hw_25 hP hD hS hC hh hs_26 hpq => ?_)
          clear hpp
          have hpp := hpq
          clear hpq
          try dsimp only at hw_25
          have aw_27 : AW [6, 7, 8, 9, 16, 14, 35] [] S S_24 := hw_25.1
          have aw_27t : AW [6, 7, 8, 9, 16, 14, 10, 11, 12, 13, 25, 26, 35] [] S S_24 := AW.rf.tr (aw_27.mono (by decide) (by decide))
          have kk_28 : kK S_24 15 = 0 := (aw_27.2.1 15 (lt35 (by decide)) (by decide)).2.trans h15
          have ii_29 : S_24.1 8 = nI tm := (aw_27.1 8 (by decide)).trans h8
          have ii_30 : S_24.1 9 = nI ab := (aw_27.1 9 (by decide)).trans h9
          have ii_31 : S_24.1 10 = nI lv := (aw_27.1 10 (by decide)).trans h10
          have hw_259 := hw_25.2
          clear hw_25
          rcases hw_259 with ⟨ty_32v, ty_32s, ty_32f⟩ | ⟨ty_32v, ty_32t, ty_32, ty_32o, ty_324, ty_328, ty_32r, ⟨ty_32150, ty_32kt⟩, ty_32l⟩
          · skip
            subst ty_32v
            refine lv_istore (lv' := [(6, .int ((-6))), (5, .int (nI (2 * (one z t9)))), (4, .int (nI (ks z t9))), (0, .ref (ga G 4)), (1, .int (nI t9)), (2, .int 2), (3, .int (nI dp))]) hx hb dX5_copied_271 hl (by decide) rfl (fun ls hl => ?_)
            refine lv_iload hx hb dX5_copied_273 (lv_at hl 0 rfl) ?_
            refine lv_if_ge (tgt := 281) hx hb dX5_copied_275 (by decide) (fun c_33 => absurd c_33 (by decide)) (fun c_33 => ?_)
            refine lv_iload hx hb dX5_copied_278 (lv_at hl 0 rfl) ?_
            exact c_iret (v := (-6)) hx hb hr hK hP hD hS hC hh hpp ⟨aw_27t, ⟨⟨T, V, X, Y, (by rw [ty_32s]; exact cr0), by omega, by omega, fun h => absurd (by decide) h⟩, by rw [ty_32s]; exact XE.full hz hm hkq (fun _ _ => ⟨rfl, rfl⟩) h0 (cp_no2 h0 hgt hs3 (by rw [hmk]; exact hme) ty_32f)⟩⟩ dX5_copied_280 hlocks
          · skip
            subst ty_32v
            refine lv_istore (lv' := [(6, .int (nI T)), (5, .int (nI (2 * (one z t9)))), (4, .int (nI (ks z t9))), (0, .ref (ga G 4)), (1, .int (nI t9)), (2, .int 2), (3, .int (nI dp))]) hx hb dX5_copied_271 hl (by decide) rfl (fun ls hl => ?_)
            refine lv_iload hx hb dX5_copied_273 (lv_at hl 0 rfl) ?_
            refine lv_if_ge (tgt := 281) hx hb dX5_copied_275 (by decide) (fun c_34 => ?_) (fun c_34 => absurd (Int32.not_lt.mp (nI_n0 (by omega))) c_34)
            obtain ⟨ty_32q, ty_32w, ty_32x, ty_32y⟩ := ty_32r
            obtain ⟨va1, va2⟩ := kx_var (l := lv) hm hkq aw_27 (by rw [hTz]; exact ty_32l) (ty_32.1.2.2.2.2.1.trans (by rw [hTz]))
            have va3 := sg_aw (S := S) (S1 := S) (Y := Y) (fun _ _ => ⟨rfl, rfl⟩) aw_27 (by decide)
            have n602 : nT z ≠ 602 := by have := ty_32t; omega
            have hmv : mkV z lv = (newV z lv, nT z) := mkV_e (by omega) n602
            have zT1 : nT (newV z lv) = T + 1 := congrArg (· + 1) hTz
            refine lv_aload_n hx hb dX5_copied_281 rfl (lv_at hl 3 rfl) ?_
            refine va_get (D := gD G) (ci := 5) (v := .ref (kH S 25)) (C := RX5) (T := TX5) (N := 15) hx hb htu cu_in5 hown hK hP 4 cw_4 rfl 6 (by decide) (htu _ C_55) (fun _ h9 => h9) (c_hv (hh.2 25 (lt35 (by decide)))) dX5_copied_282 ?_
            refine lv_iload hx hb dX5_copied_285 (lv_at hl 1 rfl) ?_
            refine lv_iload hx hb dX5_copied_287 (lv_at hl 0 rfl) ?_
            have hC0 := hC
            refine c_cv (c_runV (As := [.int (nI (2 * (one z t9))), .int (nI T)]) (rest := []) (q0 := (2 * 25 + 13)) (ci := 0) ⟨hx, hb, hml, hown, htu⟩ (c_setA l G S_24 25 (lt35 (by decide)) hC (kH S 25) (hh.2 25 (lt35 (by decide))) (nI (2 * (one z t9))) (nI T) H) (cwV 2 htu hU_X5_134 rfl rfl rfl (by decide +kernel) ⟨show 0 + 1 ≤ (fu + 1) + 4 by omega, show 8 + (3 + 11) + 0 ≤ 42 * (fu + 1) + 140 by omega⟩) hP hK hD hC hpp (c_hd (hh.2 25 (lt35 (by decide))) (cw_row (lt35 (by decide)))) rfl rfl hl.1 rfl (lv_room (Nat.le_of_ble_eq_true rfl)) dX5_copied_289) hS hD hh hpp (fun S_36 H locs hw_37 hP hD hS hC hh hs_38 hpq => ?_)
            clear hpp
            have hpp := hpq
            clear hpq
            try dsimp only at hw_37
            have aw_39 : AW [25] [] S_24 S_36 := (by rw [hw_37]; exact AW.u (by decide))
            have aw_39t : AW [6, 7, 8, 9, 16, 14, 10, 11, 12, 13, 25, 26, 35] [] S S_36 := aw_27t.tr (aw_39.mono (by decide) (by decide))
            have kk_40 : kK S_36 15 = 0 := (aw_39.2.1 15 (lt35 (by decide)) (by decide)).2.trans kk_28
            have ii_41 : S_36.1 8 = nI tm := (aw_39.1 8 (by decide)).trans ii_29
            have ii_42 : S_36.1 9 = nI ab := (aw_39.1 9 (by decide)).trans ii_30
            have ii_43 : S_36.1 10 = nI lv := (aw_39.1 10 (by decide)).trans ii_31
            have ty_44 := TY.aw ty_32 aw_39 (by decide)
            refine lv_aload_n hx hb dX5_copied_292 rfl (lv_at hl 3 rfl) ?_
            refine va_get (D := gD G) (ci := 5) (v := .ref (kH S 26)) (C := RX5) (T := TX5) (N := 15) hx hb htu cu_in5 hown hK hP 4 cw_4 rfl 7 (by decide) (htu _ C_56) (fun _ h9 => h9) (c_hv (hh.2 26 (lt35 (by decide)))) dX5_copied_293 ?_
            refine lv_iload hx hb dX5_copied_296 (lv_at hl 1 rfl) ?_
            refine lv_aload_n hx hb dX5_copied_298 rfl (lv_at hl 3 rfl) ?_
            refine va_get (D := gD G) (ci := 5) (v := .int (nI tm)) (C := RX5) (T := TX5) (N := 15) hx hb htu cu_in5 hown hK hP 4 cw_4 rfl 8 (by decide) (htu _ C_306) (fun _ h9 => h9) (m_v ii_41) dX5_copied_299 ?_
            have hC0 := hC
            refine c_cv (c_runV (As := [.int (nI (2 * (one z t9))), .int (nI tm)]) (rest := []) (q0 := (2 * 26 + 13)) (ci := 0) ⟨hx, hb, hml, hown, htu⟩ (c_setA l G S_36 26 (lt35 (by decide)) hC (kH S 26) (hh.2 26 (lt35 (by decide))) (nI (2 * (one z t9))) (nI tm) H) (cwV 2 htu hU_X5_134 rfl rfl rfl (by decide +kernel) ⟨show 0 + 1 ≤ (fu + 1) + 4 by omega, show 8 + (3 + 11) + 0 ≤ 42 * (fu + 1) + 140 by omega⟩) hP hK hD hC hpp (c_hd (hh.2 26 (lt35 (by decide))) (cw_row (lt35 (by decide)))) rfl rfl hl.1 rfl (lv_room (Nat.le_of_ble_eq_true rfl)) dX5_copied_302) hS hD hh hpp (fun S_46 H locs hw_47 hP hD hS hC hh hs_48 hpq => ?_)
            clear hpp
            have hpp := hpq
            clear hpq
            try dsimp only at hw_47
            have aw_49 : AW [26] [] S_36 S_46 := (by rw [hw_47]; exact AW.u (by decide))
            have aw_49t : AW [6, 7, 8, 9, 16, 14, 10, 11, 12, 13, 25, 26, 35] [] S S_46 := aw_39t.tr (aw_49.mono (by decide) (by decide))
            have kk_50 : kK S_46 15 = 0 := (aw_49.2.1 15 (lt35 (by decide)) (by decide)).2.trans kk_40
            have ii_51 : S_46.1 8 = nI tm := (aw_49.1 8 (by decide)).trans ii_41
            have ii_52 : S_46.1 9 = nI ab := (aw_49.1 9 (by decide)).trans ii_42
            have ii_53 : S_46.1 10 = nI lv := (aw_49.1 10 (by decide)).trans ii_43
            have ty_54 := TY.aw ty_44 aw_49 (by decide)
            have hmk2 : 2 * one z t9 < 300 := by omega
            have r25 : kF S_36 25 = upd (kF S_24 25) (2 * one z t9) (nI T) := by rw [hw_37, uR_F, va1.1, rset_at hmk2 (by decide)]
            have r26 : kF S_46 26 = upd (kF S_36 26) (2 * one z t9) (nI tm) := by rw [hw_47, uR_F, (aw_39.2.1 26 (lt35 (by decide)) (by decide)).2, va1.2.1, rset_at hmk2 (by decide)]
            have km2 : KM S_46 (w1 (newV z lv) 7 (2 * one z t9) (nT z + 1)) tm := KM.nw va1 ⟨((aw_49.2.1 25 (lt35 (by decide)) (by decide)).2).trans ((by rw [hw_37, uR_K] : kK S_36 25 = kK S_24 25).trans va1.1), by rw [(aw_49.2.1 25 (lt35 (by decide)) (by decide)).1, r25, upd_s, hTz], fun i hi => by rw [(aw_49.2.1 25 (lt35 (by decide)) (by decide)).1, r25, upd_n hi]⟩ ⟨((by rw [hw_47, uR_K] : kK S_46 26 = kK S_36 26)).trans (((aw_39.2.1 26 (lt35 (by decide)) (by decide)).2).trans va1.2.1), by rw [r26, upd_s], fun i hi => by rw [r26, upd_n hi, (aw_39.2.1 26 (lt35 (by decide)) (by decide)).1]⟩
            have kt2 : KT S_46 (w1 (newV z lv) 7 (2 * one z t9) (nT z + 1)) := ((ty_32kt.aw aw_39 (by decide)).aw aw_49 (by decide)).w 7 _ _ (Or.inr (by decide))
            have kq2 : KQ S_46 (w1 (newV z lv) 7 (2 * one z t9) (nT z + 1)) := (va2.aw aw_39 (by decide) rfl rfl).aw aw_49 (by decide) rfl rfl
            have sg2 := sg_aw (sg_aw va3 aw_39 (by decide)) aw_49 (by decide)
            have L2 : Lx z (w1 (newV z lv) 7 (2 * one z t9) (nT z + 1)) := (x_newV z lv).tr (Lx.w1 _ 7 _ _ (Or.inr (by decide)))
            obtain ⟨m1, m2, m3, m4, m5, m6, m7⟩ := lx_at L2 ht
            refine lv_iload_n hx hb dX5_copied_305 rfl (lv_at hl 5 rfl) ?_
            refine lv_if_ne (tgt := 323) hx hb dX5_copied_306 (by decide) (fun c_55 => ?_) (fun c_55 => absurd c_55 (by decide))
            refine lv_iload_n hx hb dX5_copied_323 rfl (lv_at hl 5 rfl) ?_
            refine lv_iconst (v := 1) hx hb dX5_copied_324 (by decide) ?_
            refine lv_icmp_ne (tgt := 342) hx hb dX5_copied_325 (by decide) (fun c_56 => ?_) (fun c_56 => absurd c_56 (by decide))
            have z6 : OC S S_46 T := ((((ty_32o).tr (OC.aw (T := T) aw_39 (by decide)) (Nat.le_refl _))).tr (OC.aw (T := T) aw_49 (by decide)) (Nat.le_refl _))
            have zb : ∀ j, j < 2 * (V + 1) → kK S_46 (35 + j) = kK S_24 (35 + j) := fun j hj => ((aw_49.bnd (V := V + 1) (by decide) (Nat.le_trans ty_32.2.1.2.2.1 aw_39.2.2.2.1) (j) hj).trans ((aw_39.bnd (V := V + 1) (by decide) ty_32.2.1.2.2.1 (j) hj).trans rfl))
            have cr1 : CR S S_46 T V K 0 (T + 1) (V + 1) X Y Z := CR.var hBD ty_54 z6 (by decide) (fun j hj => by rw [zb j (by omega)]; exact Nat.le_of_eq (ty_32w j hj)) ((zb (2 * V) (by omega)).trans ty_32x) ((zb (2 * V + 1) (by omega)).trans ty_32y)
            have q6 : kF S_46 6 T = 4 := (by rw [(aw_49.2.1 6 (lt35 (by decide)) (by decide)).1]; exact (by rw [(aw_39.2.1 6 (lt35 (by decide)) (by decide)).1]; exact ty_324))
            have q8 : kF S_46 8 T = nI V := (by rw [(aw_49.2.1 8 (lt35 (by decide)) (by decide)).1]; exact (by rw [(aw_39.2.1 8 (lt35 (by decide)) (by decide)).1]; exact ty_328))
            have q0 : kK S_46 (35 + (2 * V + 0)) = 0 ∧ kK S_46 (35 + (2 * V + 1)) = 0 := ⟨(zb (2 * V) (by omega)).trans ty_32x, (zb (2 * V + 1) (by omega)).trans ty_32y⟩
            have tV1 : V + 1 ≤ 150 := ty_54.2.1.2.1
            have tT1 : T + 1 ≤ 602 := ty_54.2.1.1
            obtain ⟨za, hza⟩ : ∃ za, za = (w1 (newV z lv) 7 (2 * one z t9) (nT z + 1)) := ⟨_, rfl⟩
            have kta : KT S_46 za := by rw [hza]; exact kt2
            have kma : KM S_46 za tm := by rw [hza]; exact km2
            have kqa : KQ S_46 za := by rw [hza]; exact kq2
            have h0a : sto za = 0 := by rw [hza]; exact h0
            have La : Lx z za := by rw [hza]; exact L2
            have hTa : nT za = nT z + 1 := by rw [hza]; rfl
            obtain ⟨o1, o2, o3, o4, o5, o6, o7⟩ := lx_at La ht
            have hsT : srt za T = 3 ∧ one za T = V := by rw [← hTz, ← hVz, hza]; exact ⟨if_pos rfl, if_pos rfl⟩
            clear m1 m2 m3 m4 m5 m6 m7
            have er1 : cp (fu + 1) z t9 2 ab lv = (cpS (fun s x => cp fu s x 2 ab lv) T t9 0 za, T) := by rw [cp_vA h0 hgt hs3 hme hmv, hza, hTz]
            refine lv_iconst (v := 0) hx hb dX5_copied_342 (by decide) ?_
            refine lv_istore (lv' := [(7, .int 0), (6, .int (nI T)), (5, .int (nI (2 * (one z t9)))), (4, .int (nI (ks z t9))), (0, .ref (ga G 4)), (1, .int (nI t9)), (2, .int 2), (3, .int (nI dp))]) hx hb dX5_copied_343 hl (by decide) rfl (fun ls hl => ?_)
            refine lv_iload hx hb dX5_copied_345 (lv_at hl 0 rfl) ?_
            refine lv_iconst (v := 1) hx hb dX5_copied_347 (by decide) ?_
            refine lv_icmp_gt (tgt := 445) hx hb dX5_copied_348 (by decide) (fun c_57 => absurd c_57 (by decide)) (fun c_57 => ?_)
            refine lv_iload hx hb dX5_copied_351 (lv_at hl 0 rfl) ?_
            refine lv_iload_n hx hb dX5_copied_353 rfl (lv_at hl 6 rfl) ?_
            have hC0 := hC
            refine c_ci (c_runS (As := [.int 0, .int 2]) (rest := []) ⟨hx, hb, hml, hown, htu⟩ (g_isTaken l G S_46 0 2 hC  H) (va_cwS 2 htu hU_X5_227 rfl rfl rfl (by decide +kernel) ⟨show 0 + 1 ≤ (fu + 1) + 4 by omega, show 8 + (2 + 11) + 0 ≤ 42 * (fu + 1) + 140 by omega⟩) hP hK hD hC hpp rfl hl.1 rfl (lv_room (Nat.le_of_ble_eq_true rfl)) dX5_copied_354) hS hD hh hpp (fun r_58 S_59 H locs hw_60 hP hD hS hC hh hs_61 hpq => ?_)
            clear hpp
            have hpp := hpq
            clear hpq
            obtain ⟨-, hu9, hw_60⟩ := hw_60
            have hu9 := hu9.symm
            subst hu9
            obtain rfl : r_58 = 1 := hw_60.trans (by decide)
            refine lv_if_ne (tgt := 363) hx hb dX5_copied_357 (by decide) (fun c_62 => ?_) (fun c_62 => absurd c_62 (by decide))
            refine lv_aload_n hx hb dX5_copied_363 rfl (lv_at hl 4 rfl) ?_
            refine va_get (D := gD G) (ci := 5) (v := .ref (ga G 2)) (C := RX5) (T := TX5) (N := 15) hx hb htu cu_in5 hown hK hP 4 cw_4 rfl 1 (by decide) (htu _ C_45) (fun _ h9 => h9) rfl dX5_copied_364 ?_
            refine lv_iload_n hx hb dX5_copied_367 rfl (lv_at hl 5 rfl) ?_
            refine lv_iload hx hb dX5_copied_368 (lv_at hl 0 rfl) ?_
            have hC0 := hC
            refine c_cr (c_runV (As := [.int (nI t9), .int 0]) (rest := []) (q0 := 2) (ci := 4) ⟨hx, hb, hml, hown, htu⟩ (y_boundsOf l G S_46 (T + 1) (V + 1) (V + 1) X Y Z (nI t9) 0 hC ty_54 ((Nat.le_refl _)) ((by decide)) H) (cwV 2 htu hU_X5_196 rfl rfl rfl (by decide +kernel) ⟨show 1 + 1 ≤ (fu + 1) + 4 by omega, show 8 + (5 + 11) + 21 ≤ 42 * (fu + 1) + 140 by omega⟩) hP hK hD hC hpp cw_2 rfl rfl hl.1 rfl (lv_room (Nat.le_of_ble_eq_true rfl)) dX5_copied_370) hS hD hh hpp (fun r_63 S_64 H locs hw_65 hP hD hS hC hh hs_66 hpq => ?_)
            clear hpp
            have hpp := hpq
            clear hpq
            obtain ⟨-, hu9, hw_65⟩ := hw_65
            have hu9 := hu9.symm
            subst hu9
            obtain ⟨br_67r, br_67e, br_671⟩ := hw_65
            have br_67b := ty_54.2.1.2.2.1
            have br_67l : br_67r < 35 + kB S_46 := bnd_lt br_671 br_67b (by decide)
            have br_67h : kH S_46 br_67r = r_63 := br_67e.symm
            refine lv_astore (lv' := [(8, .ref r_63), (7, .int 0), (6, .int (nI T)), (5, .int (nI (2 * (one z t9)))), (4, .int (nI (ks z t9))), (0, .ref (ga G 4)), (1, .int (nI t9)), (2, .int 2), (3, .int (nI dp))]) hx hb dX5_copied_373 hl (by decide) rfl (fun ls hl => ?_)
            refine lv_aload hx hb dX5_copied_375 (lv_at hl 0 rfl) ?_
            refine va_get (D := gD G) (ci := 0) (v := .int (nI (kK S_46 br_67r))) (C := RX0) (T := TX0) (N := 2) hx hb htu cu_in0 hown hK hP (2 * br_67r + 13) (c_hd br_67h (cw_row br_67l)) rfl 1 (by decide) (htu _ C_313) (fun _ h9 => h9) rfl dX5_copied_377 ?_
            refine lv_istore (lv' := [(9, .int (nI (kK S_46 br_67r))), (8, .ref r_63), (7, .int 0), (6, .int (nI T)), (5, .int (nI (2 * (one z t9)))), (4, .int (nI (ks z t9))), (0, .ref (ga G 4)), (1, .int (nI t9)), (2, .int 2), (3, .int (nI dp))]) hx hb dX5_copied_380 hl (by decide) rfl (fun ls hl => ?_)
            refine lv_iconst (v := 0) hx hb dX5_copied_382 (by decide) ?_
            refine lv_istore (lv' := [(10, .int 0), (9, .int (nI (kK S_46 br_67r))), (8, .ref r_63), (7, .int 0), (6, .int (nI T)), (5, .int (nI (2 * (one z t9)))), (4, .int (nI (ks z t9))), (0, .ref (ga G 4)), (1, .int (nI t9)), (2, .int 2), (3, .int (nI dp))]) hx hb dX5_copied_383 hl (by decide) rfl (fun ls hl => ?_)
            obtain ⟨b11, b12, b13, b14, b15, b16, b17⟩ := lx_at La ht
            have b1q : br_67r = 35 + (2 * one za t9 + 0) := kta.bof b11 (b12.trans hs3) br_671 cr1.1.2.1.1 cr1.1.2.1.2.1
            clear br_671
            obtain ⟨ah, eah⟩ : ∃ x, x = kK S_46 br_67r := ⟨_, rfl⟩
            have b1l : ah = (row za 0 t9).length := eah.trans (by rw [b1q]; exact (kta.bn b11 (b12.trans hs3) (by decide)).1)
            have hah : ah ≤ K + (V + 1) := by
              rw [eah, b1q]
              exact cr1.2.2.2.2.2 _ (by have := (kta.f3 b11 (b12.trans hs3)).2.1; have := kta.1.2.2.2.2.1; have := cr1.1.1.2.2.2.2.2.1; omega)
            rw [← eah] at hl
            refine w_loop (fun j H locs k sl g => ∃ (S1 : cS) (T1 : Nat) (V1 : Nat) (X1 : Nat) (zi : aS) (i : Nat) (ls : Array Slot), CL S1 ∧ HS S S1 ∧ PT S ≤ PT S1 ∧ AW [6, 7, 8, 9, 16, 14, 10, 11, 12, 13, 25, 26, 35] [] S S1 ∧ i + j = ah ∧ CR S S1 T V K 0 T1 V1 X1 Y Z ∧ (V + 1) ≤ V1 ∧ T + 1 ≤ T1 ∧ kK S1 (35 + (2 * V + 0)) ≤ i + 0 * (V1 - (V + 1)) ∧ kF S1 6 T = 4 ∧ kF S1 8 T = nI V ∧ kH S1 br_67r = r_63 ∧ br_67r < 35 + kB S1 ∧ KT S1 zi ∧ KM S1 zi tm ∧ KQ S1 zi ∧ sto zi = 0 ∧ Lx za zi ∧ cpR (fun s x => cp fu s x 2 ab lv) T 0 za (row za 0 t9) = cpR (fun s x => cp fu s x 2 ab lv) T 0 zi ((row za 0 t9).drop i) ∧ (∀ j, j < Y → kF S1 12 j = kF S 12 j ∧ kF S1 13 j = kF S 13 j) ∧ kK S1 (35 + (2 * V + 1)) = 0 ∧ k = PT S1 - PT S ∧ sl = 12 * (PT S1 - PT S) ∧ cP G S1 H ∧ cD (cA G S s.heap.size) G S1 ∧ va_S (cA G S s.heap.size) s.heap H locs ∧ lv_has ls 12 [(0, .ref (ga G 4)), (1, .int (nI t9)), (2, .int 2), (3, .int (nI dp)), (5, .int (nI (2 * (one z t9)))), (6, .int (nI T)), (7, .int 0), (8, .ref r_63), (9, .int (nI ah)), (10, .int (nI i))] ∧ g = F0 m 385 ls []) ?_ ?_ ah _ _ _ _ _ ⟨S_46, (T + 1), (V + 1), X, za, 0, ls, hC, hh, hpp, aw_49t, by omega, cr1, Nat.le_refl _, by omega, (by rw [q0.1]; exact Nat.zero_le _), q6, q8, br_67h, br_67l, kta, kma, kqa, h0a, Lx.rf, rfl, sg2, q0.2, rfl, rfl, hP, hD, hS, lv_sub hl [7, 8, 9, 10, 5, 4, 3, 2, 1, 0] rfl, rfl⟩
            · intro H locs k sl g hI
              clear hpp
              obtain ⟨S1, T1, V1, X1, zi, i, ls, hC, hh, hpp, hAW, hp0, hp1, hp2, hp3, hp4, hp5, hp6, hp7, hp8, hp9, hp10, hp11, hp12, hp13, hp14, hp15, hp16, rfl, rfl, hP, hD, hS, hl, rfl⟩ := hI
              have x15 : kK S1 15 = 0 := (hAW.2.1 15 (lt35 (by decide)) (by decide)).2.trans h15
              have x8 : S1.1 8 = nI tm := (hAW.1 8 (by decide)).trans h8
              have x9 : S1.1 9 = nI ab := (hAW.1 9 (by decide)).trans h9
              have x10 : S1.1 10 = nI lv := (hAW.1 10 (by decide)).trans h10
              obtain ⟨yT, yV, yB, yX⟩ := hp1.1.2.1
              have hziT : nT zi = T1 := hp9.1.1.symm.trans hp1.1.1.1
              have hd_0 : cpR (fun s x => cp fu s x 2 ab lv) T 0 za (row za 0 t9) = zi := by rw [hp14, List.drop_eq_nil_of_le (by omega)]; rfl
              have er2 : cp (fu + 1) z t9 2 ab lv = (cpS (fun s x => cp fu s x 2 ab lv) T t9 1 zi, T) := by rw [er1, cpS_s (by decide), hd_0]
              refine lv_iload hx hb dX5_copied_385 (lv_at hl 9 rfl) ?_
              refine lv_iload hx hb dX5_copied_387 (lv_at hl 8 rfl) ?_
              refine lv_icmp_ge (tgt := 439) hx hb dX5_copied_389 (by decide) (fun c_68 => ?_) (fun c_68 => absurd (nI_le (by omega) (by omega)) c_68)
              refine lv_iinc (v := 1) (lv' := [(7, .int 1), (0, .ref (ga G 4)), (1, .int (nI t9)), (2, .int 2), (3, .int (nI dp)), (5, .int (nI (2 * (one z t9)))), (6, .int (nI T)), (8, .ref r_63), (9, .int (nI ah)), (10, .int (nI i))]) hx hb dX5_copied_439 hl (k := 6) rfl (by decide) (by decide) rfl (fun ls hl => ?_)
              refine lv_goto (tgt := 345) hx hb dX5_copied_442 (by decide) ?_
              refine lv_iload hx hb dX5_copied_345 (lv_at hl 0 rfl) ?_
              refine lv_iconst (v := 1) hx hb dX5_copied_347 (by decide) ?_
              refine lv_icmp_gt (tgt := 445) hx hb dX5_copied_348 (by decide) (fun c_69 => absurd c_69 (by decide)) (fun c_69 => ?_)
              refine lv_iload hx hb dX5_copied_351 (lv_at hl 0 rfl) ?_
              refine lv_iload_n hx hb dX5_copied_353 rfl (lv_at hl 3 rfl) ?_
              have hC0 := hC
              refine c_ci (c_runS (As := [.int 1, .int 2]) (rest := []) ⟨hx, hb, hml, hown, htu⟩ (g_isTaken l G S1 1 2 hC  H) (va_cwS 2 htu hU_X5_227 rfl rfl rfl (by decide +kernel) ⟨show 0 + 1 ≤ (fu + 1) + 4 by omega, show 8 + (2 + 11) + 0 ≤ 42 * (fu + 1) + 140 by omega⟩) hP hK hD hC hpp rfl hl.1 rfl (lv_room (Nat.le_of_ble_eq_true rfl)) dX5_copied_354) hS hD hh hpp (fun r_70 S_71 H locs hw_72 hP hD hS hC hh hs_73 hpq => ?_)
              clear hpp
              have hpp := hpq
              clear hpq
              obtain ⟨-, hu9, hw_72⟩ := hw_72
              have hu9 := hu9.symm
              subst hu9
              obtain rfl : r_70 = 1 := hw_72.trans (by decide)
              refine lv_if_ne (tgt := 363) hx hb dX5_copied_357 (by decide) (fun c_74 => ?_) (fun c_74 => absurd c_74 (by decide))
              refine lv_aload_n hx hb dX5_copied_363 rfl (lv_at hl 1 rfl) ?_
              refine va_get (D := gD G) (ci := 5) (v := .ref (ga G 2)) (C := RX5) (T := TX5) (N := 15) hx hb htu cu_in5 hown hK hP 4 cw_4 rfl 1 (by decide) (htu _ C_45) (fun _ h9 => h9) rfl dX5_copied_364 ?_
              refine lv_iload_n hx hb dX5_copied_367 rfl (lv_at hl 2 rfl) ?_
              refine lv_iload hx hb dX5_copied_368 (lv_at hl 0 rfl) ?_
              have hC0 := hC
              refine c_cr (c_runV (As := [.int (nI t9), .int 1]) (rest := []) (q0 := 2) (ci := 4) ⟨hx, hb, hml, hown, htu⟩ (y_boundsOf l G S1 T1 V1 V1 X1 Y Z (nI t9) 1 hC hp1.1 ((Nat.le_refl _)) ((by decide)) H) (cwV 2 htu hU_X5_196 rfl rfl rfl (by decide +kernel) ⟨show 1 + 1 ≤ (fu + 1) + 4 by omega, show 8 + (5 + 11) + 21 ≤ 42 * (fu + 1) + 140 by omega⟩) hP hK hD hC hpp cw_2 rfl rfl hl.1 rfl (lv_room (Nat.le_of_ble_eq_true rfl)) dX5_copied_370) hS hD hh hpp (fun r_75 S_76 H locs hw_77 hP hD hS hC hh hs_78 hpq => ?_)
              clear hpp
              have hpp := hpq
              clear hpq
              obtain ⟨-, hu9, hw_77⟩ := hw_77
              have hu9 := hu9.symm
              subst hu9
              obtain ⟨br_79r, br_79e, br_791⟩ := hw_77
              have br_79b := hp1.1.2.1.2.2.1
              have br_79l : br_79r < 35 + kB S1 := bnd_lt br_791 br_79b (by decide)
              have br_79h : kH S1 br_79r = r_75 := br_79e.symm
              refine lv_astore (lv' := [(8, .ref r_75), (7, .int 1), (0, .ref (ga G 4)), (1, .int (nI t9)), (2, .int 2), (3, .int (nI dp)), (5, .int (nI (2 * (one z t9)))), (6, .int (nI T)), (9, .int (nI ah)), (10, .int (nI i))]) hx hb dX5_copied_373 hl (by decide) rfl (fun ls hl => ?_)
              refine lv_aload hx hb dX5_copied_375 (lv_at hl 0 rfl) ?_
              refine va_get (D := gD G) (ci := 0) (v := .int (nI (kK S1 br_79r))) (C := RX0) (T := TX0) (N := 2) hx hb htu cu_in0 hown hK hP (2 * br_79r + 13) (c_hd br_79h (cw_row br_79l)) rfl 1 (by decide) (htu _ C_313) (fun _ h9 => h9) rfl dX5_copied_377 ?_
              refine lv_istore (lv' := [(9, .int (nI (kK S1 br_79r))), (8, .ref r_75), (7, .int 1), (0, .ref (ga G 4)), (1, .int (nI t9)), (2, .int 2), (3, .int (nI dp)), (5, .int (nI (2 * (one z t9)))), (6, .int (nI T)), (10, .int (nI i))]) hx hb dX5_copied_380 hl (by decide) rfl (fun ls hl => ?_)
              refine lv_iconst (v := 0) hx hb dX5_copied_382 (by decide) ?_
              refine lv_istore (lv' := [(10, .int 0), (9, .int (nI (kK S1 br_79r))), (8, .ref r_75), (7, .int 1), (0, .ref (ga G 4)), (1, .int (nI t9)), (2, .int 2), (3, .int (nI dp)), (5, .int (nI (2 * (one z t9)))), (6, .int (nI T))]) hx hb dX5_copied_383 hl (by decide) rfl (fun ls hl => ?_)
              obtain ⟨b71, b72, b73, b74, b75, b76, b77⟩ := lx_at (Lx.tr La hp13) ht
              have b7q : br_79r = 35 + (2 * one zi t9 + 1) := hp9.bof b71 (b72.trans hs3) br_791 hp1.1.2.1.1 hp1.1.2.1.2.1
              clear br_791
              obtain ⟨ah7, eah7⟩ : ∃ x, x = kK S1 br_79r := ⟨_, rfl⟩
              have b7l : ah7 = (row zi 1 t9).length := eah7.trans (by rw [b7q]; exact (hp9.bn b71 (b72.trans hs3) (by decide)).1)
              have hah7 : ah7 ≤ K + V1 := by
                rw [eah7, b7q]
                exact hp1.2.2.2.2.2 _ (by have := (hp9.f3 b71 (b72.trans hs3)).2.1; have := hp9.1.2.2.2.2.1; have := hp1.1.1.2.2.2.2.2.1; omega)
              rw [← eah7] at hl
              have hzab : Lx za zi := hp13
              refine w_loop (fun j H locs k sl g => ∃ (S7 : cS) (T7 : Nat) (V7 : Nat) (X7 : Nat) (zj : aS) (i7 : Nat) (ls : Array Slot), CL S7 ∧ HS S S7 ∧ PT S ≤ PT S7 ∧ AW [6, 7, 8, 9, 16, 14, 10, 11, 12, 13, 25, 26, 35] [] S S7 ∧ i7 + j = ah7 ∧ CR S S7 T V K 0 T7 V7 X7 Y Z ∧ V1 ≤ V7 ∧ T + 1 ≤ T7 ∧ kK S7 (35 + (2 * V + 1)) ≤ i7 + 0 * (V7 - V1) ∧ kF S7 6 T = 4 ∧ kF S7 8 T = nI V ∧ kH S7 br_79r = r_75 ∧ br_79r < 35 + kB S7 ∧ KT S7 zj ∧ KM S7 zj tm ∧ KQ S7 zj ∧ sto zj = 0 ∧ Lx zi zj ∧ cpR (fun s x => cp fu s x 2 ab lv) T 1 zi (row zi 1 t9) = cpR (fun s x => cp fu s x 2 ab lv) T 1 zj ((row zi 1 t9).drop i7) ∧ (∀ j, j < Y → kF S7 12 j = kF S 12 j ∧ kF S7 13 j = kF S 13 j) ∧ k = PT S7 - PT S ∧ sl = 12 * (PT S7 - PT S) ∧ cP G S7 H ∧ cD (cA G S s.heap.size) G S7 ∧ va_S (cA G S s.heap.size) s.heap H locs ∧ lv_has ls 12 [(0, .ref (ga G 4)), (1, .int (nI t9)), (2, .int 2), (3, .int (nI dp)), (5, .int (nI (2 * (one z t9)))), (6, .int (nI T)), (7, .int 1), (8, .ref r_75), (9, .int (nI ah7)), (10, .int (nI i7))] ∧ g = F0 m 385 ls []) ?_ ?_ ah7 _ _ _ _ _ ⟨S1, T1, V1, X1, zi, 0, ls, hC, hh, hpp, hAW, by omega, hp1, Nat.le_refl _, by omega, (by rw [hp16]; exact Nat.zero_le _), hp5, hp6, br_79h, br_79l, hp9, hp10, hp11, hp12, Lx.rf, rfl, hp15, rfl, rfl, hP, hD, hS, lv_sub hl [4, 5, 6, 7, 8, 9, 3, 2, 1, 0] rfl, rfl⟩
              · intro H locs k sl g hI
                clear hpp
                obtain ⟨S7, T7, V7, X7, zj, i7, ls, hC, hh, hpp, hAW, hq0, hq1, hq2, hq3, hq4, hq5, hq6, hq7, hq8, hq9, hq10, hq11, hq12, hq13, hq14, hq15, rfl, rfl, hP, hD, hS, hl, rfl⟩ := hI
                have x15 : kK S7 15 = 0 := (hAW.2.1 15 (lt35 (by decide)) (by decide)).2.trans h15
                have x8 : S7.1 8 = nI tm := (hAW.1 8 (by decide)).trans h8
                have x9 : S7.1 9 = nI ab := (hAW.1 9 (by decide)).trans h9
                have x10 : S7.1 10 = nI lv := (hAW.1 10 (by decide)).trans h10
                obtain ⟨yT, yV, yB, yX⟩ := hq1.1.2.1
                have hziT : nT zj = T7 := hq9.1.1.symm.trans hq1.1.1.1
                have hd_1 : cpR (fun s x => cp fu s x 2 ab lv) T 1 zi (row zi 1 t9) = zj := by rw [hq14, List.drop_eq_nil_of_le (by omega)]; rfl
                have er3 : cp (fu + 1) z t9 2 ab lv = (cpS (fun s x => cp fu s x 2 ab lv) T t9 2 zj, T) := by rw [er2, cpS_s (by decide), hd_1]
                refine lv_iload hx hb dX5_copied_385 (lv_at hl 9 rfl) ?_
                refine lv_iload hx hb dX5_copied_387 (lv_at hl 8 rfl) ?_
                refine lv_icmp_ge (tgt := 439) hx hb dX5_copied_389 (by decide) (fun c_80 => ?_) (fun c_80 => absurd (nI_le (by omega) (by omega)) c_80)
                refine lv_iinc (v := 2) (lv' := [(7, .int 2), (0, .ref (ga G 4)), (1, .int (nI t9)), (2, .int 2), (3, .int (nI dp)), (5, .int (nI (2 * (one z t9)))), (6, .int (nI T)), (8, .ref r_75), (9, .int (nI ah7)), (10, .int (nI i7))]) hx hb dX5_copied_439 hl (k := 6) rfl (by decide) (by decide) rfl (fun ls hl => ?_)
                refine lv_goto (tgt := 345) hx hb dX5_copied_442 (by decide) ?_
                refine lv_iload hx hb dX5_copied_345 (lv_at hl 0 rfl) ?_
                refine lv_iconst (v := 1) hx hb dX5_copied_347 (by decide) ?_
                refine lv_icmp_gt (tgt := 445) hx hb dX5_copied_348 (by decide) (fun c_81 => ?_) (fun c_81 => absurd (by decide) c_81)
                refine lv_iload hx hb dX5_copied_445 (lv_at hl 6 rfl) ?_
                exact c_iret (v := nI T) hx hb hr hK hP hD hS hC hh hpp ⟨hAW, ⟨⟨T7, V7, X7, Y, hq1, by omega, by omega, fun _ => by omega⟩, XE.good hq9 hq10 hq11 hq15 hq12 rfl (by omega) (er3.trans rfl)⟩⟩ dX5_copied_447 hlocks
              · intro j ih7 H locs k sl g hI
                clear hpp
                obtain ⟨S7, T7, V7, X7, zj, i7, ls, hC, hh, hpp, hAW, hq0, hq1, hq2, hq3, hq4, hq5, hq6, hq7, hq8, hq9, hq10, hq11, hq12, hq13, hq14, hq15, rfl, rfl, hP, hD, hS, hl, rfl⟩ := hI
                have x15 : kK S7 15 = 0 := (hAW.2.1 15 (lt35 (by decide)) (by decide)).2.trans h15
                have x8 : S7.1 8 = nI tm := (hAW.1 8 (by decide)).trans h8
                have x9 : S7.1 9 = nI ab := (hAW.1 9 (by decide)).trans h9
                have x10 : S7.1 10 = nI lv := (hAW.1 10 (by decide)).trans h10
                obtain ⟨yT, yV, yB, yX⟩ := hq1.1.2.1
                have hziT : nT zj = T7 := hq9.1.1.symm.trans hq1.1.1.1
                have ni : i7 < ah7 := by omega
                refine lv_iload hx hb dX5_copied_385 (lv_at hl 9 rfl) ?_
                refine lv_iload hx hb dX5_copied_387 (lv_at hl 8 rfl) ?_
                refine lv_icmp_ge (tgt := 439) hx hb dX5_copied_389 (by decide) (fun c_82 => absurd c_82 (nI_ge (by omega) (by omega))) (fun c_82 => ?_)
                refine lv_aload_n hx hb dX5_copied_392 rfl (lv_at hl 0 rfl) ?_
                refine lv_aload hx hb dX5_copied_393 (lv_at hl 7 rfl) ?_
                refine lv_iload hx hb dX5_copied_395 (lv_at hl 9 rfl) ?_
                have hC0 := hC
                refine c_ci (c_runV (As := [.int (nI i7)]) (rest := [.ref (ga G 4)]) (q0 := (2 * br_79r + 13)) (ci := 0) ⟨hx, hb, hml, hown, htu⟩ (c_getA l G S7 br_79r hq8 hC r_75 hq7 (nI i7) H) (cwV 1 htu hU_X5_124 rfl rfl rfl (by decide +kernel) ⟨show 0 + 1 ≤ (fu + 1) + 4 by omega, show 8 + (2 + 11) + 0 ≤ 42 * (fu + 1) + 140 by omega⟩) hP hK hD hC hpp (c_hd hq7 (cw_row hq8)) rfl rfl hl.1 rfl (lv_room (Nat.le_of_ble_eq_true rfl)) dX5_copied_397) hS hD hh hpp (fun r_83 S_84 H locs hw_85 hP hD hS hC hh hs_86 hpq => ?_)
                clear hpp
                have hpp := hpq
                clear hpq
                obtain ⟨hu9, hw_85⟩ := hw_85
                have hu9 := hu9.symm
                subst hu9
                have hi1 : i7 < (row zi 1 t9).length := by omega
                obtain ⟨pl1, pl2⟩ := hq9.pl hq13 b71 (b72.trans hs3) (by decide) hi1 (by rw [← b7q]; have := kK_lt hC hq8; omega)
                rw [← b7q] at pl1
                obtain rfl : r_83 = nI ((row zi 1 t9).getD i7 0) := hw_85.trans pl1
                refine lv_iload_n hx hb dX5_copied_400 rfl (lv_at hl 2 rfl) ?_
                refine lv_iload_n hx hb dX5_copied_401 rfl (lv_at hl 3 rfl) ?_
                refine lv_iconst (v := 1) hx hb dX5_copied_402 (by decide) ?_
                refine lv_iadd hx hb dX5_copied_403 ?_
                refine m_top (y := nI (dp + 1)) (nI_1 dp) ?_
                have hC0 := hC
                refine c_ci (c_runV (As := [.int (nI ((row zi 1 t9).getD i7 0)), .int 2, .int (nI (dp + 1))]) (rest := []) (q0 := 4) (ci := 5) ⟨hx, hb, hml, hown, htu⟩ (ih l G S7 T7 V7 X7 Y Z K 0 (dp + 1) 2 zj ((row zi 1 t9).getD i7 0) ab lv tm hC hq1.1 hq1.2.2.2.2.2 hKK x15 ((Or.inl ⟨rfl, rfl⟩)) ((by decide)) ((by omega)) ((by omega)) x8 x9 x10 htm hlv hab hq9 hq10 hq11 hq12 pl2 H) (cwV 3 htu hU_X5_131 rfl rfl rfl (by decide +kernel) ⟨show (fu + 4) + 1 ≤ (fu + 1) + 4 by omega, show 8 + (12 + 11) + (42 * fu + 140) ≤ 42 * (fu + 1) + 140 by omega⟩) hP hK hD hC hpp cw_4 rfl rfl hl.1 rfl (lv_room (Nat.le_of_ble_eq_true rfl)) dX5_copied_404) hS hD hh hpp (fun r_87 S_88 H locs hw_89 hP hD hS hC hh hs_90 hpq => ?_)
                clear hpp
                have hpp := hpq
                clear hpq
                try dsimp only at hw_89
                have aw_91 : AW [6, 7, 8, 9, 16, 14, 10, 11, 12, 13, 25, 26, 35] [] S7 S_88 := hw_89.1
                have aw_91t : AW [6, 7, 8, 9, 16, 14, 10, 11, 12, 13, 25, 26, 35] [] S S_88 := hAW.tr (aw_91.mono (by decide) (by decide))
                have kk_92 : kK S_88 15 = 0 := (aw_91.2.1 15 (lt35 (by decide)) (by decide)).2.trans x15
                have ii_93 : S_88.1 8 = nI tm := (aw_91.1 8 (by decide)).trans x8
                have ii_94 : S_88.1 9 = nI ab := (aw_91.1 9 (by decide)).trans x9
                have ii_95 : S_88.1 10 = nI lv := (aw_91.1 10 (by decide)).trans x10
                have ha_96r : br_79r < 35 + kB S_88 := by have := hs_90.1; have := hq8; omega
                have ha_96 : kH S_88 br_79r = r_75 := (hs_90.2 br_79r hq8).trans hq7
                obtain ⟨cx_97C, cx_97E⟩ := hw_89.2
                clear hw_89
                obtain ⟨cx_97T, cx_97V, cx_97X, cx_97Y, cx_97Q, cx_97a, cx_97bb, cx_97c⟩ := id cx_97C
                have cx_97h := hq1.tr cx_97Q
                obtain ⟨-, cx_97t1, cx_97t2, -⟩ := id cx_97Q
                obtain ⟨cx_97u1, cx_97u2, cx_97u3, cx_97u4⟩ := cx_97Q.1.2.1
                obtain ⟨cx_97R, cx_97e⟩ : ∃ R, cp fu zj ((row zi 1 t9).getD i7 0) 2 ab lv = R := ⟨_, rfl⟩
                have cx_97L : Lx zj cx_97R.1 := by rw [← cx_97e]; exact x_cp fu zj ((row zi 1 t9).getD i7 0) 2 ab lv
                have cx_97zl : Lx z cx_97R.1 := Lx.tr (Lx.tr (Lx.tr La hp13) hq13) cx_97L
                rw [cx_97e] at cx_97E
                obtain ⟨cx_97k, cx_97m, cx_97q, cx_97s0, cx_97g, cx_97b⟩ := cx_97E
                have cx_97s := sg_tr (S := S) (Y := Y) (Y1 := Y) hq15 cx_97s0 (by omega)
                have cx_97n6 := cx_97k.1.2.2.2.2.2.2.2.1
                rcases Nat.eq_zero_or_pos (sto cx_97R.1) with cx_97z | cx_97z
                · skip
                  obtain ⟨cx_97v, cx_97x⟩ := cx_97g cx_97z
                  subst cx_97v
                  have cx_970 : 0 ≤ nI cx_97R.2 := Int32.not_lt.mp (nI_n0 (by omega))
                  have cx_97ye : cx_97Y = Y := cx_97c (Int32.not_lt.mpr cx_970)
                  rw [cx_97ye] at cx_97h
                  clear cx_97g cx_97b cx_97c cx_97C
                  refine lv_istore (lv' := [(11, .int (nI cx_97R.2)), (0, .ref (ga G 4)), (1, .int (nI t9)), (2, .int 2), (3, .int (nI dp)), (5, .int (nI (2 * (one z t9)))), (6, .int (nI T)), (7, .int 1), (8, .ref r_75), (9, .int (nI ah7)), (10, .int (nI i7))]) hx hb dX5_copied_407 hl (by decide) rfl (fun ls hl => ?_)
                  refine lv_iload hx hb dX5_copied_409 (lv_at hl 0 rfl) ?_
                  refine lv_if_ge (tgt := 417) hx hb dX5_copied_411 (by decide) (fun c_98 => ?_) (fun c_98 => absurd (Int32.not_lt.mp (nI_n0 (by omega))) c_98)
                  refine lv_aload_n hx hb dX5_copied_417 rfl (lv_at hl 1 rfl) ?_
                  refine va_get (D := gD G) (ci := 5) (v := .ref (ga G 2)) (C := RX5) (T := TX5) (N := 15) hx hb htu cu_in5 hown hK hP 4 cw_4 rfl 1 (by decide) (htu _ C_45) (fun _ h9 => h9) rfl dX5_copied_418 ?_
                  refine lv_iload hx hb dX5_copied_421 (lv_at hl 6 rfl) ?_
                  refine lv_iload hx hb dX5_copied_423 (lv_at hl 7 rfl) ?_
                  have hC0 := hC
                  refine c_cr (c_runV (As := [.int (nI T), .int 1]) (rest := []) (q0 := 2) (ci := 4) ⟨hx, hb, hml, hown, htu⟩ (y_boundsOf l G S_88 cx_97T cx_97V cx_97V cx_97X Y Z (nI T) 1 hC cx_97h.1 ((Nat.le_refl _)) ((by decide)) H) (cwV 2 htu hU_X5_196 rfl rfl rfl (by decide +kernel) ⟨show 1 + 1 ≤ (fu + 1) + 4 by omega, show 8 + (5 + 11) + 21 ≤ 42 * (fu + 1) + 140 by omega⟩) hP hK hD hC hpp cw_2 rfl rfl hl.1 rfl (lv_room (Nat.le_of_ble_eq_true rfl)) dX5_copied_425) hS hD hh hpp (fun r_99 S_100 H locs hw_101 hP hD hS hC hh hs_102 hpq => ?_)
                  clear hpp
                  have hpp := hpq
                  clear hpq
                  obtain ⟨-, hu9, hw_101⟩ := hw_101
                  have hu9 := hu9.symm
                  subst hu9
                  obtain ⟨br_103r, br_103e, br_1031⟩ := hw_101
                  have br_103b := cx_97h.1.2.1.2.2.1
                  have br_103l : br_103r < 35 + kB S_88 := bnd_lt br_1031 br_103b (by decide)
                  have br_103h : kH S_88 br_103r = r_99 := br_103e.symm
                  refine lv_iload hx hb dX5_copied_428 (lv_at hl 0 rfl) ?_
                  have pu_1046 : kF S_88 6 T = 4 := (cx_97Q.2.2.2.1 T (by omega)).1.trans hq5
                  have pu_1048 : kF S_88 8 T = nI V := (cx_97Q.2.2.2.1 T (by omega)).2.trans hq6
                  have pu_104r := bnd_at br_1031 pu_1046 pu_1048 (by have := cx_97h.1.1.1; omega) (by have := cx_97h.1.1.1; omega) (by omega) (by omega) (by omega)
                  clear br_1031
                  have pu_104k : kK S_88 br_103r + 1 ≤ K + cx_97V := by have h9 := cx_97Q.2.2.2.2.1 (2 * V + 1) (by omega); rw [pu_104r]; omega
                  have hC0 := hC
                  refine c_cv (c_runV (As := [.int (nI cx_97R.2)]) (rest := []) (q0 := (2 * br_103r + 13)) (ci := 0) ⟨hx, hb, hml, hown, htu⟩ (c_addA l G S_88 br_103r br_103l hC r_99 br_103h (nI cx_97R.2) (by rw [pu_104r, lim_b (Nat.le_add_right 35 _), ← pu_104r]; omega) H) (cwV 1 htu hU_X5_200 rfl rfl rfl (by decide +kernel) ⟨show 2 + 1 ≤ (fu + 1) + 4 by omega, show 8 + (2 + 11) + 82 ≤ 42 * (fu + 1) + 140 by omega⟩) hP hK hD hC hpp (c_hd br_103h (cw_row br_103l)) rfl rfl hl.1 rfl (lv_room (Nat.le_of_ble_eq_true rfl)) dX5_copied_430) hS hD hh hpp (fun S_106 H locs hw_107 hP hD hS hC hh hs_108 hpq => ?_)
                  clear hpp
                  have hpp := hpq
                  clear hpq
                  try dsimp only at hw_107
                  have aw_109 : AW [35] [] S_88 S_106 := (by obtain ⟨_, _, _, h9, -, -⟩ := hw_107; rw [h9]; exact AW.u (by first | (simp; omega) | simp))
                  have aw_109t : AW [6, 7, 8, 9, 16, 14, 10, 11, 12, 13, 25, 26, 35] [] S S_106 := aw_91t.tr (aw_109.mono (by decide) (by decide))
                  have kk_110 : kK S_106 15 = 0 := (aw_109.2.1 15 (lt35 (by decide)) (by decide)).2.trans kk_92
                  have ii_111 : S_106.1 8 = nI tm := (aw_109.1 8 (by decide)).trans ii_93
                  have ii_112 : S_106.1 9 = nI ab := (aw_109.1 9 (by decide)).trans ii_94
                  have ii_113 : S_106.1 10 = nI lv := (aw_109.1 10 (by decide)).trans ii_95
                  have ha_114r : br_79r < 35 + kB S_106 := by have := hs_108.1; have := ha_96r; omega
                  have ha_114 : kH S_106 br_79r = r_75 := (hs_108.2 br_79r ha_96r).trans ha_96
                  have ha_115r : br_103r < 35 + kB S_106 := by have := hs_108.1; have := br_103l; omega
                  have ha_115 : kH S_106 br_103r = r_99 := (hs_108.2 br_103r br_103l).trans br_103h
                  have ty_116 := TY.aw cx_97h.1 aw_109 (by decide)
                  obtain ⟨ad_117n, ad_117q, ad_117g, ad_117u, ad_1171, ad_1172⟩ := hw_107
                  have cp_118 := cx_97h.push ad_117u pu_104r (by omega) pu_104k
                  have cp_1186 : kF S_106 6 T = 4 := by rw [(aw_109.2.1 6 (lt35 (by decide)) (by decide)).1]; exact pu_1046
                  have cp_1188 : kF S_106 8 T = nI V := by rw [(aw_109.2.1 8 (lt35 (by decide)) (by decide)).1]; exact pu_1048
                  have cp_118k : kK S_106 (35 + (2 * V + 1)) ≤ (i7 + 1) + 0 * (cx_97V - V1) := by have h9 := cx_97Q.2.2.2.2.1 (2 * V + 1) (by omega); rw [← pu_104r, ad_117u, uR_K, pu_104r]; omega
                  have cp_118L : Lx za cx_97R.1 := Lx.tr hzab (Lx.tr hq13 cx_97L)
                  obtain ⟨cp_1181, cp_1182, -, cp_1184, -⟩ := lx_at cp_118L (show T < nT za by omega)
                  have cp_1181o : one cx_97R.1 T = V := cp_1184.trans hsT.2
                  have cp_118K : KT S_106 (bind cx_97R.1 T 1 cx_97R.2) := by
                    refine kt_bind cx_97k cp_1181 (cp_1182.trans hsT.1) (by decide) cx_97x (n := ad_117n) (q := ad_117q) (g := ad_117g) ?_ ?_ ?_
                    · rw [cp_1181o, ← pu_104r]; exact ad_117u
                    · rw [cp_1181o, ← pu_104r]; exact ad_1171
                    · rw [cp_1181o, ← pu_104r]; exact ad_1172
                  have cp_118M : KM S_106 (bind cx_97R.1 T 1 cx_97R.2) tm := cx_97m.aw aw_109 (by decide) (fun _ => rfl) (Nat.le_refl _)
                  have cp_118Q : KQ S_106 (bind cx_97R.1 T 1 cx_97R.2) := cx_97q.aw aw_109 (by decide) rfl rfl
                  have cp_118S := sg_aw cx_97s aw_109 (by decide)
                  have cp_118B : Lx zi (bind cx_97R.1 T 1 cx_97R.2) := Lx.tr hq13 (Lx.tr cx_97L (x_bind _ _ _ _ (by decide)))
                  have cp_118R : cpR (fun s x => cp fu s x 2 ab lv) T 1 zi (row zi 1 t9) = cpR (fun s x => cp fu s x 2 ab lv) T 1 (bind cx_97R.1 T 1 cx_97R.2) ((row zi 1 t9).drop (i7 + 1)) := by rw [hq14, cpR_step hi1 hq12, cx_97e, if_pos cx_97z]
                  refine lv_iinc (v := nI (i7 + 1)) (lv' := [(10, .int (nI (i7 + 1))), (11, .int (nI cx_97R.2)), (0, .ref (ga G 4)), (1, .int (nI t9)), (2, .int 2), (3, .int (nI dp)), (5, .int (nI (2 * (one z t9)))), (6, .int (nI T)), (7, .int 1), (8, .ref r_75), (9, .int (nI ah7))]) hx hb dX5_copied_433 hl (k := 10) rfl (nI_1 i7) (by decide) rfl (fun ls hl => ?_)
                  refine lv_goto (tgt := 385) hx hb dX5_copied_436 (by decide) ?_
                  exact ih7 _ _ _ _ _ ⟨S_106, cx_97T, cx_97V, cx_97X, (bind cx_97R.1 T 1 cx_97R.2), i7 + 1, ls, hC, hh, hpp, aw_109t, by omega, cp_118, by omega, by omega, cp_118k, cp_1186, cp_1188, ha_114, ha_114r, cp_118K, cp_118M, cp_118Q, cx_97z, cp_118B, cp_118R, cp_118S, rfl, rfl, hP, hD, hS, lv_sub hl [2, 3, 4, 5, 6, 7, 8, 9, 10, 0] rfl, rfl⟩
                · skip
                  have cx_97zz : sto cx_97R.1 ≠ 0 := by omega
                  have cx_97v := cx_97b cx_97zz
                  have cx_97nn : ¬ 0 ≤ r_87 := Int32.not_le.mpr (by rw [cx_97v]; exact sc_neg cx_97zz)
                  clear cx_97g cx_97b cx_97c cx_97C
                  refine lv_istore (lv' := [(11, .int r_87), (0, .ref (ga G 4)), (1, .int (nI t9)), (2, .int 2), (3, .int (nI dp)), (5, .int (nI (2 * (one z t9)))), (6, .int (nI T)), (7, .int 1), (8, .ref r_75), (9, .int (nI ah7)), (10, .int (nI i7))]) hx hb dX5_copied_407 hl (by decide) rfl (fun ls hl => ?_)
                  refine lv_iload hx hb dX5_copied_409 (lv_at hl 0 rfl) ?_
                  refine lv_if_ge (tgt := 417) hx hb dX5_copied_411 (by decide) (fun c_119 => absurd c_119 cx_97nn) (fun c_119 => ?_)
                  refine lv_iload hx hb dX5_copied_414 (lv_at hl 0 rfl) ?_
                  have hcb : cpR (fun s x => cp fu s x 2 ab lv) T 1 zi (row zi 1 t9) = cx_97R.1 := by rw [hq14, cpR_step hi1 hq12, cx_97e, if_neg cx_97zz, cpR_stop cx_97zz]
                  exact c_iret (v := r_87) hx hb hr hK hP hD hS hC hh hpp ⟨aw_91t, ⟨⟨cx_97T, cx_97V, cx_97X, cx_97Y, cx_97h, by omega, by omega, fun h => absurd (Int32.not_le.mp cx_97nn) h⟩, XE.stp cx_97k cx_97m cx_97q cx_97s cx_97zz cx_97v (x := T) (by rw [er2, cpS_s (by decide), hcb]; rfl)⟩⟩ dX5_copied_416 hlocks
            · intro j ih9 H locs k sl g hI
              clear hpp
              obtain ⟨S1, T1, V1, X1, zi, i, ls, hC, hh, hpp, hAW, hp0, hp1, hp2, hp3, hp4, hp5, hp6, hp7, hp8, hp9, hp10, hp11, hp12, hp13, hp14, hp15, hp16, rfl, rfl, hP, hD, hS, hl, rfl⟩ := hI
              have x15 : kK S1 15 = 0 := (hAW.2.1 15 (lt35 (by decide)) (by decide)).2.trans h15
              have x8 : S1.1 8 = nI tm := (hAW.1 8 (by decide)).trans h8
              have x9 : S1.1 9 = nI ab := (hAW.1 9 (by decide)).trans h9
              have x10 : S1.1 10 = nI lv := (hAW.1 10 (by decide)).trans h10
              obtain ⟨yT, yV, yB, yX⟩ := hp1.1.2.1
              have hziT : nT zi = T1 := hp9.1.1.symm.trans hp1.1.1.1
              have ni : i < ah := by omega
              refine lv_iload hx hb dX5_copied_385 (lv_at hl 9 rfl) ?_
              refine lv_iload hx hb dX5_copied_387 (lv_at hl 8 rfl) ?_
              refine lv_icmp_ge (tgt := 439) hx hb dX5_copied_389 (by decide) (fun c_120 => absurd c_120 (nI_ge (by omega) (by omega))) (fun c_120 => ?_)
              refine lv_aload_n hx hb dX5_copied_392 rfl (lv_at hl 0 rfl) ?_
              refine lv_aload hx hb dX5_copied_393 (lv_at hl 7 rfl) ?_
              refine lv_iload hx hb dX5_copied_395 (lv_at hl 9 rfl) ?_
              have hC0 := hC
              refine c_ci (c_runV (As := [.int (nI i)]) (rest := [.ref (ga G 4)]) (q0 := (2 * br_67r + 13)) (ci := 0) ⟨hx, hb, hml, hown, htu⟩ (c_getA l G S1 br_67r hp8 hC r_63 hp7 (nI i) H) (cwV 1 htu hU_X5_124 rfl rfl rfl (by decide +kernel) ⟨show 0 + 1 ≤ (fu + 1) + 4 by omega, show 8 + (2 + 11) + 0 ≤ 42 * (fu + 1) + 140 by omega⟩) hP hK hD hC hpp (c_hd hp7 (cw_row hp8)) rfl rfl hl.1 rfl (lv_room (Nat.le_of_ble_eq_true rfl)) dX5_copied_397) hS hD hh hpp (fun r_121 S_122 H locs hw_123 hP hD hS hC hh hs_124 hpq => ?_)
              clear hpp
              have hpp := hpq
              clear hpq
              obtain ⟨hu9, hw_123⟩ := hw_123
              have hu9 := hu9.symm
              subst hu9
              have hi0 : i < (row za 0 t9).length := by omega
              obtain ⟨pl1, pl2⟩ := hp9.pl hp13 b11 (b12.trans hs3) (by decide) hi0 (by rw [← b1q]; have := kK_lt hC hp8; omega)
              rw [← b1q] at pl1
              obtain rfl : r_121 = nI ((row za 0 t9).getD i 0) := hw_123.trans pl1
              refine lv_iload_n hx hb dX5_copied_400 rfl (lv_at hl 2 rfl) ?_
              refine lv_iload_n hx hb dX5_copied_401 rfl (lv_at hl 3 rfl) ?_
              refine lv_iconst (v := 1) hx hb dX5_copied_402 (by decide) ?_
              refine lv_iadd hx hb dX5_copied_403 ?_
              refine m_top (y := nI (dp + 1)) (nI_1 dp) ?_
              have hC0 := hC
              refine c_ci (c_runV (As := [.int (nI ((row za 0 t9).getD i 0)), .int 2, .int (nI (dp + 1))]) (rest := []) (q0 := 4) (ci := 5) ⟨hx, hb, hml, hown, htu⟩ (ih l G S1 T1 V1 X1 Y Z K 0 (dp + 1) 2 zi ((row za 0 t9).getD i 0) ab lv tm hC hp1.1 hp1.2.2.2.2.2 hKK x15 ((Or.inl ⟨rfl, rfl⟩)) ((by decide)) ((by omega)) ((by omega)) x8 x9 x10 htm hlv hab hp9 hp10 hp11 hp12 pl2 H) (cwV 3 htu hU_X5_131 rfl rfl rfl (by decide +kernel) ⟨show (fu + 4) + 1 ≤ (fu + 1) + 4 by omega, show 8 + (12 + 11) + (42 * fu + 140) ≤ 42 * (fu + 1) + 140 by omega⟩) hP hK hD hC hpp cw_4 rfl rfl hl.1 rfl (lv_room (Nat.le_of_ble_eq_true rfl)) dX5_copied_404) hS hD hh hpp (fun r_125 S_126 H locs hw_127 hP hD hS hC hh hs_128 hpq => ?_)
              clear hpp
              have hpp := hpq
              clear hpq
              try dsimp only at hw_127
              have aw_129 : AW [6, 7, 8, 9, 16, 14, 10, 11, 12, 13, 25, 26, 35] [] S1 S_126 := hw_127.1
              have aw_129t : AW [6, 7, 8, 9, 16, 14, 10, 11, 12, 13, 25, 26, 35] [] S S_126 := hAW.tr (aw_129.mono (by decide) (by decide))
              have kk_130 : kK S_126 15 = 0 := (aw_129.2.1 15 (lt35 (by decide)) (by decide)).2.trans x15
              have ii_131 : S_126.1 8 = nI tm := (aw_129.1 8 (by decide)).trans x8
              have ii_132 : S_126.1 9 = nI ab := (aw_129.1 9 (by decide)).trans x9
              have ii_133 : S_126.1 10 = nI lv := (aw_129.1 10 (by decide)).trans x10
              have ha_134r : br_67r < 35 + kB S_126 := by have := hs_128.1; have := hp8; omega
              have ha_134 : kH S_126 br_67r = r_63 := (hs_128.2 br_67r hp8).trans hp7
              obtain ⟨cx_135C, cx_135E⟩ := hw_127.2
              clear hw_127
              obtain ⟨cx_135T, cx_135V, cx_135X, cx_135Y, cx_135Q, cx_135a, cx_135bb, cx_135c⟩ := id cx_135C
              have cx_135h := hp1.tr cx_135Q
              obtain ⟨-, cx_135t1, cx_135t2, -⟩ := id cx_135Q
              obtain ⟨cx_135u1, cx_135u2, cx_135u3, cx_135u4⟩ := cx_135Q.1.2.1
              obtain ⟨cx_135R, cx_135e⟩ : ∃ R, cp fu zi ((row za 0 t9).getD i 0) 2 ab lv = R := ⟨_, rfl⟩
              have cx_135L : Lx zi cx_135R.1 := by rw [← cx_135e]; exact x_cp fu zi ((row za 0 t9).getD i 0) 2 ab lv
              have cx_135zl : Lx z cx_135R.1 := Lx.tr (Lx.tr La hp13) cx_135L
              rw [cx_135e] at cx_135E
              obtain ⟨cx_135k, cx_135m, cx_135q, cx_135s0, cx_135g, cx_135b⟩ := cx_135E
              have cx_135s := sg_tr (S := S) (Y := Y) (Y1 := Y) hp15 cx_135s0 (by omega)
              have cx_135n6 := cx_135k.1.2.2.2.2.2.2.2.1
              rcases Nat.eq_zero_or_pos (sto cx_135R.1) with cx_135z | cx_135z
              · skip
                obtain ⟨cx_135v, cx_135x⟩ := cx_135g cx_135z
                subst cx_135v
                have cx_1350 : 0 ≤ nI cx_135R.2 := Int32.not_lt.mp (nI_n0 (by omega))
                have cx_135ye : cx_135Y = Y := cx_135c (Int32.not_lt.mpr cx_1350)
                rw [cx_135ye] at cx_135h
                clear cx_135g cx_135b cx_135c cx_135C
                refine lv_istore (lv' := [(11, .int (nI cx_135R.2)), (0, .ref (ga G 4)), (1, .int (nI t9)), (2, .int 2), (3, .int (nI dp)), (5, .int (nI (2 * (one z t9)))), (6, .int (nI T)), (7, .int 0), (8, .ref r_63), (9, .int (nI ah)), (10, .int (nI i))]) hx hb dX5_copied_407 hl (by decide) rfl (fun ls hl => ?_)
                refine lv_iload hx hb dX5_copied_409 (lv_at hl 0 rfl) ?_
                refine lv_if_ge (tgt := 417) hx hb dX5_copied_411 (by decide) (fun c_136 => ?_) (fun c_136 => absurd (Int32.not_lt.mp (nI_n0 (by omega))) c_136)
                refine lv_aload_n hx hb dX5_copied_417 rfl (lv_at hl 1 rfl) ?_
                refine va_get (D := gD G) (ci := 5) (v := .ref (ga G 2)) (C := RX5) (T := TX5) (N := 15) hx hb htu cu_in5 hown hK hP 4 cw_4 rfl 1 (by decide) (htu _ C_45) (fun _ h9 => h9) rfl dX5_copied_418 ?_
                refine lv_iload hx hb dX5_copied_421 (lv_at hl 6 rfl) ?_
                refine lv_iload hx hb dX5_copied_423 (lv_at hl 7 rfl) ?_
                have hC0 := hC
                refine c_cr (c_runV (As := [.int (nI T), .int 0]) (rest := []) (q0 := 2) (ci := 4) ⟨hx, hb, hml, hown, htu⟩ (y_boundsOf l G S_126 cx_135T cx_135V cx_135V cx_135X Y Z (nI T) 0 hC cx_135h.1 ((Nat.le_refl _)) ((by decide)) H) (cwV 2 htu hU_X5_196 rfl rfl rfl (by decide +kernel) ⟨show 1 + 1 ≤ (fu + 1) + 4 by omega, show 8 + (5 + 11) + 21 ≤ 42 * (fu + 1) + 140 by omega⟩) hP hK hD hC hpp cw_2 rfl rfl hl.1 rfl (lv_room (Nat.le_of_ble_eq_true rfl)) dX5_copied_425) hS hD hh hpp (fun r_137 S_138 H locs hw_139 hP hD hS hC hh hs_140 hpq => ?_)
                clear hpp
                have hpp := hpq
                clear hpq
                obtain ⟨-, hu9, hw_139⟩ := hw_139
                have hu9 := hu9.symm
                subst hu9
                obtain ⟨br_141r, br_141e, br_1411⟩ := hw_139
                have br_141b := cx_135h.1.2.1.2.2.1
                have br_141l : br_141r < 35 + kB S_126 := bnd_lt br_1411 br_141b (by decide)
                have br_141h : kH S_126 br_141r = r_137 := br_141e.symm
                refine lv_iload hx hb dX5_copied_428 (lv_at hl 0 rfl) ?_
                have pu_1426 : kF S_126 6 T = 4 := (cx_135Q.2.2.2.1 T (by omega)).1.trans hp5
                have pu_1428 : kF S_126 8 T = nI V := (cx_135Q.2.2.2.1 T (by omega)).2.trans hp6
                have pu_142r := bnd_at br_1411 pu_1426 pu_1428 (by have := cx_135h.1.1.1; omega) (by have := cx_135h.1.1.1; omega) (by omega) (by omega) (by omega)
                clear br_1411
                have pu_142k : kK S_126 br_141r + 1 ≤ K + cx_135V := by have h9 := cx_135Q.2.2.2.2.1 (2 * V + 0) (by omega); rw [pu_142r]; omega
                have hC0 := hC
                refine c_cv (c_runV (As := [.int (nI cx_135R.2)]) (rest := []) (q0 := (2 * br_141r + 13)) (ci := 0) ⟨hx, hb, hml, hown, htu⟩ (c_addA l G S_126 br_141r br_141l hC r_137 br_141h (nI cx_135R.2) (by rw [pu_142r, lim_b (Nat.le_add_right 35 _), ← pu_142r]; omega) H) (cwV 1 htu hU_X5_200 rfl rfl rfl (by decide +kernel) ⟨show 2 + 1 ≤ (fu + 1) + 4 by omega, show 8 + (2 + 11) + 82 ≤ 42 * (fu + 1) + 140 by omega⟩) hP hK hD hC hpp (c_hd br_141h (cw_row br_141l)) rfl rfl hl.1 rfl (lv_room (Nat.le_of_ble_eq_true rfl)) dX5_copied_430) hS hD hh hpp (fun S_144 H locs hw_145 hP hD hS hC hh hs_146 hpq => ?_)
                clear hpp
                have hpp := hpq
                clear hpq
                try dsimp only at hw_145
                have aw_147 : AW [35] [] S_126 S_144 := (by obtain ⟨_, _, _, h9, -, -⟩ := hw_145; rw [h9]; exact AW.u (by first | (simp; omega) | simp))
                have aw_147t : AW [6, 7, 8, 9, 16, 14, 10, 11, 12, 13, 25, 26, 35] [] S S_144 := aw_129t.tr (aw_147.mono (by decide) (by decide))
                have kk_148 : kK S_144 15 = 0 := (aw_147.2.1 15 (lt35 (by decide)) (by decide)).2.trans kk_130
                have ii_149 : S_144.1 8 = nI tm := (aw_147.1 8 (by decide)).trans ii_131
                have ii_150 : S_144.1 9 = nI ab := (aw_147.1 9 (by decide)).trans ii_132
                have ii_151 : S_144.1 10 = nI lv := (aw_147.1 10 (by decide)).trans ii_133
                have ha_152r : br_67r < 35 + kB S_144 := by have := hs_146.1; have := ha_134r; omega
                have ha_152 : kH S_144 br_67r = r_63 := (hs_146.2 br_67r ha_134r).trans ha_134
                have ha_153r : br_141r < 35 + kB S_144 := by have := hs_146.1; have := br_141l; omega
                have ha_153 : kH S_144 br_141r = r_137 := (hs_146.2 br_141r br_141l).trans br_141h
                have ty_154 := TY.aw cx_135h.1 aw_147 (by decide)
                obtain ⟨ad_155n, ad_155q, ad_155g, ad_155u, ad_1551, ad_1552⟩ := hw_145
                have cp_156 := cx_135h.push ad_155u pu_142r (by omega) pu_142k
                have cp_1566 : kF S_144 6 T = 4 := by rw [(aw_147.2.1 6 (lt35 (by decide)) (by decide)).1]; exact pu_1426
                have cp_1568 : kF S_144 8 T = nI V := by rw [(aw_147.2.1 8 (lt35 (by decide)) (by decide)).1]; exact pu_1428
                have cp_156k : kK S_144 (35 + (2 * V + 0)) ≤ (i + 1) + 0 * (cx_135V - (V + 1)) := by have h9 := cx_135Q.2.2.2.2.1 (2 * V + 0) (by omega); rw [← pu_142r, ad_155u, uR_K, pu_142r]; omega
                have cp_156o : kK S_144 (35 + (2 * V + 1)) = 0 := by have h9 := cx_135Q.2.2.2.2.1 (2 * V + 1) (by omega); rw [ad_155u, uR_Ko (by omega)]; omega
                have cp_156L : Lx za cx_135R.1 := Lx.tr hp13 cx_135L
                obtain ⟨cp_1561, cp_1562, -, cp_1564, -⟩ := lx_at cp_156L (show T < nT za by omega)
                have cp_1561o : one cx_135R.1 T = V := cp_1564.trans hsT.2
                have cp_156K : KT S_144 (bind cx_135R.1 T 0 cx_135R.2) := by
                  refine kt_bind cx_135k cp_1561 (cp_1562.trans hsT.1) (by decide) cx_135x (n := ad_155n) (q := ad_155q) (g := ad_155g) ?_ ?_ ?_
                  · rw [cp_1561o, ← pu_142r]; exact ad_155u
                  · rw [cp_1561o, ← pu_142r]; exact ad_1551
                  · rw [cp_1561o, ← pu_142r]; exact ad_1552
                have cp_156M : KM S_144 (bind cx_135R.1 T 0 cx_135R.2) tm := cx_135m.aw aw_147 (by decide) (fun _ => rfl) (Nat.le_refl _)
                have cp_156Q : KQ S_144 (bind cx_135R.1 T 0 cx_135R.2) := cx_135q.aw aw_147 (by decide) rfl rfl
                have cp_156S := sg_aw cx_135s aw_147 (by decide)
                have cp_156B : Lx za (bind cx_135R.1 T 0 cx_135R.2) := Lx.tr hp13 (Lx.tr cx_135L (x_bind _ _ _ _ (by decide)))
                have cp_156R : cpR (fun s x => cp fu s x 2 ab lv) T 0 za (row za 0 t9) = cpR (fun s x => cp fu s x 2 ab lv) T 0 (bind cx_135R.1 T 0 cx_135R.2) ((row za 0 t9).drop (i + 1)) := by rw [hp14, cpR_step hi0 hp12, cx_135e, if_pos cx_135z]
                refine lv_iinc (v := nI (i + 1)) (lv' := [(10, .int (nI (i + 1))), (11, .int (nI cx_135R.2)), (0, .ref (ga G 4)), (1, .int (nI t9)), (2, .int 2), (3, .int (nI dp)), (5, .int (nI (2 * (one z t9)))), (6, .int (nI T)), (7, .int 0), (8, .ref r_63), (9, .int (nI ah))]) hx hb dX5_copied_433 hl (k := 10) rfl (nI_1 i) (by decide) rfl (fun ls hl => ?_)
                refine lv_goto (tgt := 385) hx hb dX5_copied_436 (by decide) ?_
                exact ih9 _ _ _ _ _ ⟨S_144, cx_135T, cx_135V, cx_135X, (bind cx_135R.1 T 0 cx_135R.2), i + 1, ls, hC, hh, hpp, aw_147t, by omega, cp_156, by omega, by omega, cp_156k, cp_1566, cp_1568, ha_152, ha_152r, cp_156K, cp_156M, cp_156Q, cx_135z, cp_156B, cp_156R, cp_156S, cp_156o, rfl, rfl, hP, hD, hS, lv_sub hl [2, 3, 4, 5, 6, 7, 8, 9, 10, 0] rfl, rfl⟩
              · skip
                have cx_135zz : sto cx_135R.1 ≠ 0 := by omega
                have cx_135v := cx_135b cx_135zz
                have cx_135nn : ¬ 0 ≤ r_125 := Int32.not_le.mpr (by rw [cx_135v]; exact sc_neg cx_135zz)
                clear cx_135g cx_135b cx_135c cx_135C
                refine lv_istore (lv' := [(11, .int r_125), (0, .ref (ga G 4)), (1, .int (nI t9)), (2, .int 2), (3, .int (nI dp)), (5, .int (nI (2 * (one z t9)))), (6, .int (nI T)), (7, .int 0), (8, .ref r_63), (9, .int (nI ah)), (10, .int (nI i))]) hx hb dX5_copied_407 hl (by decide) rfl (fun ls hl => ?_)
                refine lv_iload hx hb dX5_copied_409 (lv_at hl 0 rfl) ?_
                refine lv_if_ge (tgt := 417) hx hb dX5_copied_411 (by decide) (fun c_157 => absurd c_157 cx_135nn) (fun c_157 => ?_)
                refine lv_iload hx hb dX5_copied_414 (lv_at hl 0 rfl) ?_
                have hcb : cpR (fun s x => cp fu s x 2 ab lv) T 0 za (row za 0 t9) = cx_135R.1 := by rw [hp14, cpR_step hi0 hp12, cx_135e, if_neg cx_135zz, cpR_stop cx_135zz]
                exact c_iret (v := r_125) hx hb hr hK hP hD hS hC hh hpp ⟨aw_129t, ⟨⟨cx_135T, cx_135V, cx_135X, cx_135Y, cx_135h, by omega, by omega, fun h => absurd (Int32.not_le.mp cx_135nn) h⟩, XE.stp cx_135k cx_135m cx_135q cx_135s cx_135zz cx_135v (x := T) (by rw [er1, cpS_s (by decide), hcb, cpS_s (by decide), cpR_stop cx_135zz]; rfl)⟩⟩ dX5_copied_416 hlocks
        · skip
          obtain ⟨md3, md4, md5⟩ := md2 hme
          obtain rfl : r_18 = nI tm := hw_20.trans md3
          refine lv_aload_n hx hb dX5_copied_243 rfl (lv_at hl 2 rfl) ?_
          refine va_get (D := gD G) (ci := 5) (v := .int (nI tm)) (C := RX5) (T := TX5) (N := 15) hx hb htu cu_in5 hown hK hP 4 cw_4 rfl 8 (by decide) (htu _ C_306) (fun _ h9 => h9) (m_v h8) dX5_copied_244 ?_
          refine lv_icmp_ne (tgt := 260) hx hb dX5_copied_247 (by decide) (fun c_158 => absurd rfl c_158) (fun c_158 => ?_)
          refine lv_aload_n hx hb dX5_copied_250 rfl (lv_at hl 2 rfl) ?_
          refine va_get (D := gD G) (ci := 5) (v := .ref (kH S 25)) (C := RX5) (T := TX5) (N := 15) hx hb htu cu_in5 hown hK hP 4 cw_4 rfl 6 (by decide) (htu _ C_55) (fun _ h9 => h9) rfl dX5_copied_251 ?_
          refine lv_iload hx hb dX5_copied_254 (lv_at hl 0 rfl) ?_
          have hC0 := hC
          refine c_ci (c_runV (As := [.int (nI (2 * (one z t9)))]) (rest := []) (q0 := (2 * 25 + 13)) (ci := 0) ⟨hx, hb, hml, hown, htu⟩ (c_getA l G S 25 (lt35 (by decide)) hC (kH S 25) rfl (nI (2 * (one z t9))) H) (cwV 1 htu hU_X5_124 rfl rfl rfl (by decide +kernel) ⟨show 0 + 1 ≤ (fu + 1) + 4 by omega, show 8 + (2 + 11) + 0 ≤ 42 * (fu + 1) + 140 by omega⟩) hP hK hD hC hpp (c_hd rfl (cw_row (lt35 (by decide)))) rfl rfl hl.1 rfl (lv_room (Nat.le_of_ble_eq_true rfl)) dX5_copied_256) hS hD hh hpp (fun r_159 S_160 H locs hw_161 hP hD hS hC hh hs_162 hpq => ?_)
          clear hpp
          have hpp := hpq
          clear hpq
          obtain ⟨hu9, hw_161⟩ := hw_161
          have hu9 := hu9.symm
          subst hu9
          obtain rfl : r_159 = nI (memo z (2 * one z t9) - 1) := hw_161.trans md4
          exact c_iret (v := nI (memo z (2 * one z t9) - 1)) hx hb hr hK hP hD hS hC hh hpp ⟨AW.rf, ⟨⟨T, V, X, Y, cr0, by omega, by omega, fun _ => by omega⟩, XE.good hz hm hkq (fun _ _ => ⟨rfl, rfl⟩) h0 rfl (by omega) (by rw [cp_me h0 hgt hs3 (by rw [hmk]; exact hme), hmk])⟩⟩ dX5_copied_259 hlocks
      · skip
        have nc_12 : ks z t9 = 3 := (nI_eq (a := ks z t9) (b := 3) (by omega) (by omega)).mp c_12
        refine lv_aload_n hx hb dX5_copied_119 rfl (lv_at hl 1 rfl) ?_
        refine va_get (D := gD G) (ci := 5) (v := .ref (ga G 2)) (C := RX5) (T := TX5) (N := 15) hx hb htu cu_in5 hown hK hP 4 cw_4 rfl 1 (by decide) (htu _ C_45) (fun _ h9 => h9) rfl dX5_copied_120 ?_
        have hC0 := hC
        refine c_ci (c_runV (As := []) (rest := []) (q0 := 2) (ci := 4) ⟨hx, hb, hml, hown, htu⟩ (y_stagedCount l G S  hC  H) (cwV 0 htu hU_X5_153 rfl rfl rfl (by decide +kernel) ⟨show 0 + 1 ≤ (fu + 1) + 4 by omega, show 8 + (1 + 11) + 0 ≤ 42 * (fu + 1) + 140 by omega⟩) hP hK hD hC hpp cw_2 rfl rfl hl.1 rfl (lv_room (Nat.le_of_ble_eq_true rfl)) dX5_copied_123) hS hD hh hpp (fun r_163 S_164 H locs hw_165 hP hD hS hC hh hs_166 hpq => ?_)
        clear hpp
        have hpp := hpq
        clear hpq
        obtain ⟨-, hu9, hw_165⟩ := hw_165
        have hu9 := hu9.symm
        subst hu9
        obtain rfl : r_163 = nI Y := hw_165.trans (congrArg nI hY.1.2.2.2.2.2.2.2.2.2.1)
        refine lv_istore (lv' := [(5, .int (nI Y)), (4, .int (nI (ks z t9))), (0, .ref (ga G 4)), (1, .int (nI t9)), (2, .int 2), (3, .int (nI dp))]) hx hb dX5_copied_126 hl (by decide) rfl (fun ls hl => ?_)
        refine lv_aload_n hx hb dX5_copied_128 rfl (lv_at hl 2 rfl) ?_
        refine va_get (D := gD G) (ci := 5) (v := .ref (ga G 2)) (C := RX5) (T := TX5) (N := 15) hx hb htu cu_in5 hown hK hP 4 cw_4 rfl 1 (by decide) (htu _ C_45) (fun _ h9 => h9) rfl dX5_copied_129 ?_
        refine lv_iload_n hx hb dX5_copied_132 rfl (lv_at hl 3 rfl) ?_
        have hC0 := hC
        refine c_ci (c_runV (As := [.int (nI t9)]) (rest := []) (q0 := 2) (ci := 4) ⟨hx, hb, hml, hown, htu⟩ (x_fieldCount l G S (nI t9) hC  H) (cwV 1 htu hU_X5_184 rfl rfl rfl (by decide +kernel) ⟨show 1 + 1 ≤ (fu + 1) + 4 by omega, show 8 + (2 + 11) + 21 ≤ 42 * (fu + 1) + 140 by omega⟩) hP hK hD hC hpp cw_2 rfl rfl hl.1 rfl (lv_room (Nat.le_of_ble_eq_true rfl)) dX5_copied_133) hS hD hh hpp (fun r_167 S_168 H locs hw_169 hP hD hS hC hh hs_170 hpq => ?_)
        clear hpp
        have hpp := hpq
        clear hpq
        obtain ⟨-, hu9, hw_169⟩ := hw_169
        have hu9 := hu9.symm
        subst hu9
        have hs2 : srt z t9 = 2 := hz.k2 ht nc_12
        obtain ⟨hc1, hc2, hc3⟩ := hz.cnt ht hs2
        obtain rfl : r_167 = nI (parts z t9).length := (hw_169 ((hz.is ht (k := 3) (by decide) (by decide)).mpr (by rw [hs2]))).trans hc1
        clear hw_169
        refine lv_istore (lv' := [(6, .int (nI ((parts z t9).length))), (5, .int (nI Y)), (4, .int (nI (ks z t9))), (0, .ref (ga G 4)), (1, .int (nI t9)), (2, .int 2), (3, .int (nI dp))]) hx hb dX5_copied_136 hl (by decide) rfl (fun ls hl => ?_)
        refine lv_iconst (v := 0) hx hb dX5_copied_138 (by decide) ?_
        refine lv_istore (lv' := [(7, .int 0), (6, .int (nI ((parts z t9).length))), (5, .int (nI Y)), (4, .int (nI (ks z t9))), (0, .ref (ga G 4)), (1, .int (nI t9)), (2, .int 2), (3, .int (nI dp))]) hx hb dX5_copied_139 hl (by decide) rfl (fun ls hl => ?_)
        refine w_loop (fun j H locs k sl g => ∃ (S1 : cS) (T1 : Nat) (V1 : Nat) (X1 : Nat) (zi : aS) (acc : List Nat) (i : Nat) (ls : Array Slot), CL S1 ∧ HS S S1 ∧ PT S ≤ PT S1 ∧ AW [6, 7, 8, 9, 16, 14, 10, 11, 12, 13, 25, 26, 35] [] S S1 ∧ i + j = (parts z t9).length ∧ CR S S1 T V K 0 T1 V1 X1 (Y + i) Z ∧ KT S1 zi ∧ KM S1 zi tm ∧ KQ S1 zi ∧ sto zi = 0 ∧ Lx z zi ∧ Cl (fun s x => cp fu s x 2 ab lv) z (parts z t9) zi acc i ∧ (∀ j, j < Y → kF S1 12 j = kF S 12 j ∧ kF S1 13 j = kF S 13 j) ∧ (∀ q, q < i → kF S1 12 (Y + q) = nI ((labs z t9).getD q 0) ∧ kF S1 13 (Y + q) = nI (acc.getD q 0) ∧ acc.getD q 0 < nT zi) ∧ k = PT S1 - PT S ∧ sl = 12 * (PT S1 - PT S) ∧ cP G S1 H ∧ cD (cA G S s.heap.size) G S1 ∧ va_S (cA G S s.heap.size) s.heap H locs ∧ lv_has ls 12 [(0, .ref (ga G 4)), (1, .int (nI t9)), (2, .int 2), (3, .int (nI dp)), (5, .int (nI Y)), (6, .int (nI ((parts z t9).length))), (7, .int (nI i))] ∧ g = F0 m 141 ls []) ?_ ?_ ((parts z t9).length) _ _ _ _ _ ⟨S, T, V, X, z, [], 0, ls, hC, hh, hpp, AW.rf, by omega, cr0, hz, hm, hkq, h0, Lx.rf, Cl.start, (fun _ _ => ⟨rfl, rfl⟩), (fun q hq => absurd hq (Nat.not_lt_zero _)), rfl, rfl, hP, hD, hS, lv_sub hl [4, 5, 6, 7, 2, 1, 0] rfl, rfl⟩
        · intro H locs k sl g hI
          clear hpp
          obtain ⟨S1, T1, V1, X1, zi, acc, i, ls, hC, hh, hpp, hAW, hp0, hp1, hp2, hp3, hp4, hp5, hp6, hp7, hp8, hp9, rfl, rfl, hP, hD, hS, hl, rfl⟩ := hI
          have x15 : kK S1 15 = 0 := (hAW.2.1 15 (lt35 (by decide)) (by decide)).2.trans h15
          have x8 : S1.1 8 = nI tm := (hAW.1 8 (by decide)).trans h8
          have x9 : S1.1 9 = nI ab := (hAW.1 9 (by decide)).trans h9
          have x10 : S1.1 10 = nI lv := (hAW.1 10 (by decide)).trans h10
          obtain ⟨yT, yV, yB, yX⟩ := hp1.1.2.1
          have yt1 := hp1.2.1
          obtain ⟨l1, l2, l3, l4, l5, l6, l7⟩ := lx_at hp6 ht
          have hci := hp7.2.2
          have hziT : nT zi = T1 := hp2.1.1.symm.trans hp1.1.1.1
          refine lv_iload hx hb dX5_copied_141 (lv_at hl 6 rfl) ?_
          refine lv_iload hx hb dX5_copied_143 (lv_at hl 5 rfl) ?_
          refine lv_icmp_ge (tgt := 201) hx hb dX5_copied_145 (by decide) (fun c_171 => ?_) (fun c_171 => absurd (nI_le (by omega) (by omega)) c_171)
          refine lv_aload_n hx hb dX5_copied_201 rfl (lv_at hl 0 rfl) ?_
          refine va_get (D := gD G) (ci := 5) (v := .ref (ga G 2)) (C := RX5) (T := TX5) (N := 15) hx hb htu cu_in5 hown hK hP 4 cw_4 rfl 1 (by decide) (htu _ C_45) (fun _ h9 => h9) rfl dX5_copied_202 ?_
          refine lv_iload hx hb dX5_copied_205 (lv_at hl 4 rfl) ?_
          have hC0 := hC
          refine c_ci (c_runV (As := [.int (nI Y)]) (rest := []) (q0 := 2) (ci := 4) ⟨hx, hb, hml, hown, htu⟩ (x_addRecord l G S1 T1 V1 V1 X1 (Y + i) Z Y zi ((labs z t9)) acc hC hp1.1 ((by omega)) ((by omega)) hp2 hp5 ((by omega)) ((by omega)) ((fun q hq => ⟨(hp9 q (by omega)).1, (hp9 q (by omega)).2.1, (hp9 q (by omega)).2.2, (hz.lab ht hs2 (i := q) (by omega)).2.2.2⟩)) H) (cwV 1 htu hU_X5_165 rfl rfl rfl (by decide +kernel) ⟨show 4 + 1 ≤ (fu + 1) + 4 by omega, show 8 + (6 + 11) + 128 ≤ 42 * (fu + 1) + 140 by omega⟩) hP hK hD hC hpp cw_2 rfl rfl hl.1 rfl (lv_room (Nat.le_of_ble_eq_true rfl)) dX5_copied_207) hS hD hh hpp (fun r_172 S_173 H locs hw_174 hP hD hS hC hh hs_175 hpq => ?_)
          clear hpp
          have hpp := hpq
          clear hpq
          try dsimp only at hw_174
          have aw_176 : AW [6, 7, 8, 9, 16, 10, 11, 12, 13] [] S1 S_173 := hw_174.1
          have aw_176t : AW [6, 7, 8, 9, 16, 14, 10, 11, 12, 13, 25, 26, 35] [] S S_173 := hAW.tr (aw_176.mono (by decide) (by decide))
          have kk_177 : kK S_173 15 = 0 := (aw_176.2.1 15 (lt35 (by decide)) (by decide)).2.trans x15
          have ii_178 : S_173.1 8 = nI tm := (aw_176.1 8 (by decide)).trans x8
          have ii_179 : S_173.1 9 = nI ab := (aw_176.1 9 (by decide)).trans x9
          have ii_180 : S_173.1 10 = nI lv := (aw_176.1 10 (by decide)).trans x10
          have hw_1749 := hw_174.2
          clear hw_174
          rcases hw_1749 with ⟨ty_181v, ty_181s, ty_181f⟩ | ⟨ty_181v, ty_181t, ty_181, ty_181o, ⟨ty_181kt, ty_181k2, ty_181k0⟩, ty_181l, ty_18112, ty_18113⟩
          · skip
            subst ty_181v
            exact c_iret (v := (-6)) hx hb hr hK hP hD hS hC hh hpp ⟨aw_176t, ⟨⟨T1, V1, X1, Y + i, (by rw [ty_181s]; exact hp1), by omega, by omega, fun h => absurd (by decide) h⟩, by rw [ty_181s]; exact XE.full hp2 hp3 hp4 hp8 hp5 (by rw [cp_rc h0 hgt hs2, (hp7.done (by omega)).1, (hp7.done (by omega)).2, mkR_f hp5 ty_181f])⟩⟩ dX5_copied_210 hlocks
          · skip
            subst ty_181v
            have n602 : nT zi ≠ 602 := by have := ty_181t; omega
            obtain ⟨km9, kq9⟩ := kx_rec (a := labs z t9) (b := acc) hp3 hp4 aw_176 (by rw [hziT]; exact ty_181l) (ty_181.1.2.2.2.2.1.trans (by rw [hziT])) hp5 n602
            have nt9 : nT (mkR zi (labs z t9) acc).1 = nT zi + 1 := by rw [mkR_e hp5 n602]; rfl
            have er9 : cp (fu + 1) z t9 2 ab lv = mkR zi (labs z t9) acc := by rw [cp_rc h0 hgt hs2, (hp7.done (by omega)).1, (hp7.done (by omega)).2]
            exact c_iret (v := nI T1) hx hb hr hK hP hD hS hC hh hpp ⟨aw_176t, ⟨⟨_, _, _, _, hp1.step ty_181 (Nat.le_succ _) ty_181o (aw_176.bnd (by decide) yB), Nat.le_refl _, Nat.le_add_right _ _, fun _ => rfl⟩, XE.good ty_181kt km9 kq9 (fun j hj => by rw [ty_18112, ty_18113]; exact hp8 j hj) ty_181k0 rfl (by rw [nt9]; omega) (er9.trans (Prod.ext rfl ty_181k2))⟩⟩ dX5_copied_210 hlocks
        · intro j ih9 H locs k sl g hI
          clear hpp
          obtain ⟨S1, T1, V1, X1, zi, acc, i, ls, hC, hh, hpp, hAW, hp0, hp1, hp2, hp3, hp4, hp5, hp6, hp7, hp8, hp9, rfl, rfl, hP, hD, hS, hl, rfl⟩ := hI
          have x15 : kK S1 15 = 0 := (hAW.2.1 15 (lt35 (by decide)) (by decide)).2.trans h15
          have x8 : S1.1 8 = nI tm := (hAW.1 8 (by decide)).trans h8
          have x9 : S1.1 9 = nI ab := (hAW.1 9 (by decide)).trans h9
          have x10 : S1.1 10 = nI lv := (hAW.1 10 (by decide)).trans h10
          obtain ⟨yT, yV, yB, yX⟩ := hp1.1.2.1
          have yt1 := hp1.2.1
          obtain ⟨l1, l2, l3, l4, l5, l6, l7⟩ := lx_at hp6 ht
          have hci := hp7.2.2
          have hziT : nT zi = T1 := hp2.1.1.symm.trans hp1.1.1.1
          refine lv_iload hx hb dX5_copied_141 (lv_at hl 6 rfl) ?_
          refine lv_iload hx hb dX5_copied_143 (lv_at hl 5 rfl) ?_
          refine lv_icmp_ge (tgt := 201) hx hb dX5_copied_145 (by decide) (fun c_182 => absurd c_182 (nI_ge (by omega) (by omega))) (fun c_182 => ?_)
          refine lv_aload_n hx hb dX5_copied_148 rfl (lv_at hl 0 rfl) ?_
          refine lv_aload_n hx hb dX5_copied_149 rfl (lv_at hl 0 rfl) ?_
          refine va_get (D := gD G) (ci := 5) (v := .ref (ga G 2)) (C := RX5) (T := TX5) (N := 15) hx hb htu cu_in5 hown hK hP 4 cw_4 rfl 1 (by decide) (htu _ C_45) (fun _ h9 => h9) rfl dX5_copied_150 ?_
          refine lv_iload_n hx hb dX5_copied_153 rfl (lv_at hl 1 rfl) ?_
          refine lv_iload hx hb dX5_copied_154 (lv_at hl 6 rfl) ?_
          have hC0 := hC
          refine c_ci (c_runV (As := [.int (nI t9), .int (nI i)]) (rest := [.ref (ga G 4)]) (q0 := 2) (ci := 4) ⟨hx, hb, hml, hown, htu⟩ (x_partAt l G S1 (nI t9) (nI i) hC  H) (cwV 2 htu hU_X5_193 rfl rfl rfl (by decide +kernel) ⟨show 1 + 1 ≤ (fu + 1) + 4 by omega, show 8 + (3 + 11) + 21 ≤ 42 * (fu + 1) + 140 by omega⟩) hP hK hD hC hpp cw_2 rfl rfl hl.1 rfl (lv_room (Nat.le_of_ble_eq_true rfl)) dX5_copied_156) hS hD hh hpp (fun r_183 S_184 H locs hw_185 hP hD hS hC hh hs_186 hpq => ?_)
          clear hpp
          have hpp := hpq
          clear hpq
          obtain ⟨-, hu9, hw_185⟩ := hw_185
          have hu9 := hu9.symm
          subst hu9
          have hi : i < (parts z t9).length := by omega
          obtain ⟨p1, p2, p3, p4⟩ := hp2.lab l1 (l2.trans hs2) (i := i) (by rw [l6]; exact hi)
          rw [l6] at p2 p3
          obtain rfl : r_183 = nI ((parts z t9).getD i 0) := hw_185.trans p2
          refine lv_iload_n hx hb dX5_copied_159 rfl (lv_at hl 2 rfl) ?_
          refine lv_iload_n hx hb dX5_copied_160 rfl (lv_at hl 3 rfl) ?_
          refine lv_iconst (v := 1) hx hb dX5_copied_161 (by decide) ?_
          refine lv_iadd hx hb dX5_copied_162 ?_
          refine m_top (y := nI (dp + 1)) (nI_1 dp) ?_
          have hC0 := hC
          refine c_ci (c_runV (As := [.int (nI ((parts z t9).getD i 0)), .int 2, .int (nI (dp + 1))]) (rest := []) (q0 := 4) (ci := 5) ⟨hx, hb, hml, hown, htu⟩ (ih l G S1 T1 V1 X1 (Y + i) Z K 0 (dp + 1) 2 zi ((parts z t9).getD i 0) ab lv tm hC hp1.1 hp1.2.2.2.2.2 hKK x15 ((Or.inl ⟨rfl, rfl⟩)) ((by decide)) ((by omega)) ((by omega)) x8 x9 x10 htm hlv hab hp2 hp3 hp4 hp5 p3 H) (cwV 3 htu hU_X5_131 rfl rfl rfl (by decide +kernel) ⟨show (fu + 4) + 1 ≤ (fu + 1) + 4 by omega, show 8 + (12 + 11) + (42 * fu + 140) ≤ 42 * (fu + 1) + 140 by omega⟩) hP hK hD hC hpp cw_4 rfl rfl hl.1 rfl (lv_room (Nat.le_of_ble_eq_true rfl)) dX5_copied_163) hS hD hh hpp (fun r_187 S_188 H locs hw_189 hP hD hS hC hh hs_190 hpq => ?_)
          clear hpp
          have hpp := hpq
          clear hpq
          try dsimp only at hw_189
          have aw_191 : AW [6, 7, 8, 9, 16, 14, 10, 11, 12, 13, 25, 26, 35] [] S1 S_188 := hw_189.1
          have aw_191t : AW [6, 7, 8, 9, 16, 14, 10, 11, 12, 13, 25, 26, 35] [] S S_188 := hAW.tr (aw_191.mono (by decide) (by decide))
          have kk_192 : kK S_188 15 = 0 := (aw_191.2.1 15 (lt35 (by decide)) (by decide)).2.trans x15
          have ii_193 : S_188.1 8 = nI tm := (aw_191.1 8 (by decide)).trans x8
          have ii_194 : S_188.1 9 = nI ab := (aw_191.1 9 (by decide)).trans x9
          have ii_195 : S_188.1 10 = nI lv := (aw_191.1 10 (by decide)).trans x10
          obtain ⟨cx_196C, cx_196E⟩ := hw_189.2
          clear hw_189
          obtain ⟨cx_196T, cx_196V, cx_196X, cx_196Y, cx_196Q, cx_196a, cx_196bb, cx_196c⟩ := id cx_196C
          have cx_196h := hp1.tr cx_196Q
          obtain ⟨-, cx_196t1, cx_196t2, -⟩ := id cx_196Q
          obtain ⟨cx_196u1, cx_196u2, cx_196u3, cx_196u4⟩ := cx_196Q.1.2.1
          obtain ⟨cx_196R, cx_196e⟩ : ∃ R, cp fu zi ((parts z t9).getD i 0) 2 ab lv = R := ⟨_, rfl⟩
          have cx_196L : Lx zi cx_196R.1 := by rw [← cx_196e]; exact x_cp fu zi ((parts z t9).getD i 0) 2 ab lv
          have cx_196zl : Lx z cx_196R.1 := Lx.tr hp6 cx_196L
          rw [cx_196e] at cx_196E
          obtain ⟨cx_196k, cx_196m, cx_196q, cx_196s0, cx_196g, cx_196b⟩ := cx_196E
          have cx_196s := sg_tr (S := S) (Y := Y) (Y1 := (Y + i)) hp8 cx_196s0 (by omega)
          have cx_196n6 := cx_196k.1.2.2.2.2.2.2.2.1
          rcases Nat.eq_zero_or_pos (sto cx_196R.1) with cx_196z | cx_196z
          · skip
            obtain ⟨cx_196v, cx_196x⟩ := cx_196g cx_196z
            subst cx_196v
            have cx_1960 : 0 ≤ nI cx_196R.2 := Int32.not_lt.mp (nI_n0 (by omega))
            have cx_196ye : cx_196Y = Y + i := cx_196c (Int32.not_lt.mpr cx_1960)
            rw [cx_196ye] at cx_196h
            clear cx_196g cx_196b cx_196c cx_196C
            refine lv_istore (lv' := [(8, .int (nI cx_196R.2)), (0, .ref (ga G 4)), (1, .int (nI t9)), (2, .int 2), (3, .int (nI dp)), (5, .int (nI Y)), (6, .int (nI ((parts z t9).length))), (7, .int (nI i))]) hx hb dX5_copied_166 hl (by decide) rfl (fun ls hl => ?_)
            refine lv_iload hx hb dX5_copied_168 (lv_at hl 0 rfl) ?_
            refine lv_if_ge (tgt := 176) hx hb dX5_copied_170 (by decide) (fun c_197 => ?_) (fun c_197 => absurd (Int32.not_lt.mp (nI_n0 (by omega))) c_197)
            refine lv_aload_n hx hb dX5_copied_176 rfl (lv_at hl 1 rfl) ?_
            refine va_get (D := gD G) (ci := 5) (v := .ref (ga G 2)) (C := RX5) (T := TX5) (N := 15) hx hb htu cu_in5 hown hK hP 4 cw_4 rfl 1 (by decide) (htu _ C_45) (fun _ h9 => h9) rfl dX5_copied_177 ?_
            refine lv_aload_n hx hb dX5_copied_180 rfl (lv_at hl 1 rfl) ?_
            refine va_get (D := gD G) (ci := 5) (v := .ref (ga G 2)) (C := RX5) (T := TX5) (N := 15) hx hb htu cu_in5 hown hK hP 4 cw_4 rfl 1 (by decide) (htu _ C_45) (fun _ h9 => h9) rfl dX5_copied_181 ?_
            refine lv_iload_n hx hb dX5_copied_184 rfl (lv_at hl 2 rfl) ?_
            refine lv_iload hx hb dX5_copied_185 (lv_at hl 7 rfl) ?_
            have hC0 := hC
            refine c_ci (c_runV (As := [.int (nI t9), .int (nI i)]) (rest := [.ref (ga G 2)]) (q0 := 2) (ci := 4) ⟨hx, hb, hml, hown, htu⟩ (x_labelAt l G S_188 (nI t9) (nI i) hC  H) (cwV 2 htu hU_X5_187 rfl rfl rfl (by decide +kernel) ⟨show 1 + 1 ≤ (fu + 1) + 4 by omega, show 8 + (3 + 11) + 21 ≤ 42 * (fu + 1) + 140 by omega⟩) hP hK hD hC hpp cw_2 rfl rfl hl.1 rfl (lv_room (Nat.le_of_ble_eq_true rfl)) dX5_copied_187) hS hD hh hpp (fun r_198 S_199 H locs hw_200 hP hD hS hC hh hs_201 hpq => ?_)
            clear hpp
            have hpp := hpq
            clear hpq
            obtain ⟨-, hu9, hw_200⟩ := hw_200
            have hu9 := hu9.symm
            subst hu9
            obtain ⟨m1, m2, m3, m4, m5, m6, m7⟩ := lx_at cx_196zl ht
            obtain ⟨s1_, s2_, s3_, s4_⟩ := cx_196k.lab m1 (m2.trans hs2) (i := i) (by rw [m6]; exact hi)
            rw [m7] at s1_
            obtain rfl : r_198 = nI ((labs z t9).getD i 0) := hw_200.trans s1_
            refine lv_iload hx hb dX5_copied_190 (lv_at hl 0 rfl) ?_
            have hC0 := hC
            refine c_cv (c_runV (As := [.int (nI ((labs z t9).getD i 0)), .int (nI cx_196R.2)]) (rest := []) (q0 := 2) (ci := 4) ⟨hx, hb, hml, hown, htu⟩ (x_stage l G S_188 cx_196T cx_196V cx_196V cx_196X (Y + i) Z (nI ((labs z t9).getD i 0)) (nI cx_196R.2) hC cx_196h.1 ((by omega)) H) (cwV 2 htu hU_X5_162 rfl rfl rfl (by decide +kernel) ⟨show 3 + 1 ≤ (fu + 1) + 4 by omega, show 8 + (3 + 11) + 103 ≤ 42 * (fu + 1) + 140 by omega⟩) hP hK hD hC hpp cw_2 rfl rfl hl.1 rfl (lv_room (Nat.le_of_ble_eq_true rfl)) dX5_copied_192) hS hD hh hpp (fun S_203 H locs hw_204 hP hD hS hC hh hs_205 hpq => ?_)
            clear hpp
            have hpp := hpq
            clear hpq
            try dsimp only at hw_204
            have aw_206 : AW [12, 13] [] S_188 S_203 := hw_204.1
            have aw_206t : AW [6, 7, 8, 9, 16, 14, 10, 11, 12, 13, 25, 26, 35] [] S S_203 := aw_191t.tr (aw_206.mono (by decide) (by decide))
            have kk_207 : kK S_203 15 = 0 := (aw_206.2.1 15 (lt35 (by decide)) (by decide)).2.trans kk_192
            have ii_208 : S_203.1 8 = nI tm := (aw_206.1 8 (by decide)).trans ii_193
            have ii_209 : S_203.1 9 = nI ab := (aw_206.1 9 (by decide)).trans ii_194
            have ii_210 : S_203.1 10 = nI lv := (aw_206.1 10 (by decide)).trans ii_195
            obtain ⟨ty_211, ty_2111, ty_2112, ty_2113⟩ := hw_204.2
            have cs_212 := cx_196h.step ty_211 (Nat.le_refl _) (OC.aw aw_206 (by decide)) (aw_206.bnd (by decide) cx_196u3)
            have ty_211k : KT S_203 cx_196R.1 := cx_196k.aw aw_206 (by decide)
            have ty_211m : KM S_203 cx_196R.1 tm := cx_196m.aw aw_206 (by decide) (fun _ => rfl) (Nat.le_refl _)
            have ty_211q : KQ S_203 cx_196R.1 := cx_196q.aw aw_206 (by decide) rfl rfl
            have ty_211s := sg_tr (S := S) (Y := Y) (Y1 := Y + i) cx_196s ty_2113 (by omega)
            have hcs := hp7.step hi hp5
            rw [cx_196e] at hcs
            have ty_211w : ∀ q, q < i + 1 → kF S_203 12 (Y + q) = nI ((labs z t9).getD q 0) ∧ kF S_203 13 (Y + q) = nI ((acc ++ [cx_196R.2]).getD q 0) ∧ (acc ++ [cx_196R.2]).getD q 0 < nT cx_196R.1 := fun q hq => by
              rcases Nat.lt_or_ge q i with hq2 | hq2
              · rw [(ty_2113 (Y + q) (by omega)).1, (ty_2113 (Y + q) (by omega)).2, (cx_196s0 (Y + q) (by omega)).1, (cx_196s0 (Y + q) (by omega)).2, gtL (by omega)]
                exact ⟨(hp9 q hq2).1, (hp9 q hq2).2.1, Nat.lt_of_lt_of_le (hp9 q hq2).2.2 cx_196L.1⟩
              · obtain rfl : q = i := by omega
                rw [gtR hci.symm]
                exact ⟨ty_2111, ty_2112, cx_196x⟩
            refine lv_iinc (v := nI (i + 1)) (lv' := [(7, .int (nI (i + 1))), (8, .int (nI cx_196R.2)), (0, .ref (ga G 4)), (1, .int (nI t9)), (2, .int 2), (3, .int (nI dp)), (5, .int (nI Y)), (6, .int (nI ((parts z t9).length)))]) hx hb dX5_copied_195 hl (k := 7) rfl (nI_1 i) (by decide) rfl (fun ls hl => ?_)
            refine lv_goto (tgt := 141) hx hb dX5_copied_198 (by decide) ?_
            exact ih9 _ _ _ _ _ ⟨S_203, cx_196T, cx_196V, cx_196X, cx_196R.1, (acc ++ [cx_196R.2]), i + 1, ls, hC, hh, hpp, aw_206t, by omega, cs_212, ty_211k, ty_211m, ty_211q, cx_196z, cx_196zl, hcs, ty_211s, ty_211w, rfl, rfl, hP, hD, hS, lv_sub hl [2, 3, 4, 5, 6, 7, 0] rfl, rfl⟩
          · skip
            have cx_196zz : sto cx_196R.1 ≠ 0 := by omega
            have cx_196v := cx_196b cx_196zz
            have cx_196nn : ¬ 0 ≤ r_187 := Int32.not_le.mpr (by rw [cx_196v]; exact sc_neg cx_196zz)
            clear cx_196g cx_196b cx_196c cx_196C
            refine lv_istore (lv' := [(8, .int r_187), (0, .ref (ga G 4)), (1, .int (nI t9)), (2, .int 2), (3, .int (nI dp)), (5, .int (nI Y)), (6, .int (nI ((parts z t9).length))), (7, .int (nI i))]) hx hb dX5_copied_166 hl (by decide) rfl (fun ls hl => ?_)
            refine lv_iload hx hb dX5_copied_168 (lv_at hl 0 rfl) ?_
            refine lv_if_ge (tgt := 176) hx hb dX5_copied_170 (by decide) (fun c_213 => absurd c_213 cx_196nn) (fun c_213 => ?_)
            refine lv_iload hx hb dX5_copied_173 (lv_at hl 0 rfl) ?_
            have hcs := hp7.step hi hp5
            rw [cx_196e] at hcs
            exact c_iret (v := r_187) hx hb hr hK hP hD hS hC hh hpp ⟨aw_191t, ⟨⟨cx_196T, cx_196V, cx_196X, cx_196Y, cx_196h, by omega, by omega, fun h => absurd (Int32.not_le.mp cx_196nn) h⟩, XE.stp cx_196k cx_196m cx_196q cx_196s cx_196zz cx_196v (x := 0) (by rw [cp_rc h0 hgt hs2, hcs.stop cx_196zz, mkR_st cx_196zz])⟩⟩ dX5_copied_175 hlocks
    · skip
      have nc_11 : ks z t9 = 2 := (nI_eq (a := ks z t9) (b := 2) (by omega) (by omega)).mp c_11
      refine lv_aload_n hx hb dX5_copied_42 rfl (lv_at hl 1 rfl) ?_
      refine lv_aload_n hx hb dX5_copied_43 rfl (lv_at hl 1 rfl) ?_
      refine va_get (D := gD G) (ci := 5) (v := .ref (ga G 2)) (C := RX5) (T := TX5) (N := 15) hx hb htu cu_in5 hown hK hP 4 cw_4 rfl 1 (by decide) (htu _ C_45) (fun _ h9 => h9) rfl dX5_copied_44 ?_
      refine lv_iload_n hx hb dX5_copied_47 rfl (lv_at hl 2 rfl) ?_
      have hC0 := hC
      refine c_ci (c_runV (As := [.int (nI t9)]) (rest := [.ref (ga G 4)]) (q0 := 2) (ci := 4) ⟨hx, hb, hml, hown, htu⟩ (y_firstOf l G S (nI t9) hC  H) (cwV 1 htu hU_X5_178 rfl rfl rfl (by decide +kernel) ⟨show 1 + 1 ≤ (fu + 1) + 4 by omega, show 8 + (2 + 11) + 21 ≤ 42 * (fu + 1) + 140 by omega⟩) hP hK hD hC hpp cw_2 rfl rfl hl.1 rfl (lv_room (Nat.le_of_ble_eq_true rfl)) dX5_copied_48) hS hD hh hpp (fun r_214 S_215 H locs hw_216 hP hD hS hC hh hs_217 hpq => ?_)
      clear hpp
      have hpp := hpq
      clear hpq
      obtain ⟨-, hu9, hw_216⟩ := hw_216
      have hu9 := hu9.symm
      subst hu9
      have hs1 : srt z t9 = 1 := hz.k1 ht nc_11
      obtain ⟨g1, g2, g3, g4⟩ := hz.f1 ht hs1
      obtain rfl : r_214 = nI (one z t9) := hw_216.trans g1
      refine lv_iload_n hx hb dX5_copied_51 rfl (lv_at hl 3 rfl) ?_
      have hC0 := hC
      refine c_ci (c_runS (As := [.int 2]) (rest := [.int (nI (one z t9)), .ref (ga G 4)]) ⟨hx, hb, hml, hown, htu⟩ (g_otherWay l G S 2 hC  H) (va_cwS 1 htu hU_X5_221 rfl rfl rfl (by decide +kernel) ⟨show 0 + 1 ≤ (fu + 1) + 4 by omega, show 8 + (1 + 11) + 0 ≤ 42 * (fu + 1) + 140 by omega⟩) hP hK hD hC hpp rfl hl.1 rfl (lv_room (Nat.le_of_ble_eq_true rfl)) dX5_copied_52) hS hD hh hpp (fun r_218 S_219 H locs hw_220 hP hD hS hC hh hs_221 hpq => ?_)
      clear hpp
      have hpp := hpq
      clear hpq
      obtain ⟨-, hu9, hw_220⟩ := hw_220
      have hu9 := hu9.symm
      subst hu9
      obtain rfl : r_218 = 2 := hw_220.trans (by decide)
      refine lv_iload_n hx hb dX5_copied_55 rfl (lv_at hl 4 rfl) ?_
      refine lv_iconst (v := 1) hx hb dX5_copied_56 (by decide) ?_
      refine lv_iadd hx hb dX5_copied_57 ?_
      refine m_top (y := nI (dp + 1)) (nI_1 dp) ?_
      have hC0 := hC
      refine c_ci (c_runV (As := [.int (nI (one z t9)), .int 2, .int (nI (dp + 1))]) (rest := []) (q0 := 4) (ci := 5) ⟨hx, hb, hml, hown, htu⟩ (ih l G S T V X Y Z K 0 (dp + 1) 2 z (one z t9) ab lv tm hC cr0.1 cr0.2.2.2.2.2 hKK h15 ((Or.inl ⟨rfl, rfl⟩)) ((by decide)) ((by omega)) ((by omega)) h8 h9 h10 htm hlv hab hz hm hkq h0 g3 H) (cwV 3 htu hU_X5_131 rfl rfl rfl (by decide +kernel) ⟨show (fu + 4) + 1 ≤ (fu + 1) + 4 by omega, show 8 + (12 + 11) + (42 * fu + 140) ≤ 42 * (fu + 1) + 140 by omega⟩) hP hK hD hC hpp cw_4 rfl rfl hl.1 rfl (lv_room (Nat.le_of_ble_eq_true rfl)) dX5_copied_58) hS hD hh hpp (fun r_222 S_223 H locs hw_224 hP hD hS hC hh hs_225 hpq => ?_)
      clear hpp
      have hpp := hpq
      clear hpq
      try dsimp only at hw_224
      have aw_226 : AW [6, 7, 8, 9, 16, 14, 10, 11, 12, 13, 25, 26, 35] [] S S_223 := hw_224.1
      have aw_226t : AW [6, 7, 8, 9, 16, 14, 10, 11, 12, 13, 25, 26, 35] [] S S_223 := AW.rf.tr (aw_226.mono (by decide) (by decide))
      have kk_227 : kK S_223 15 = 0 := (aw_226.2.1 15 (lt35 (by decide)) (by decide)).2.trans h15
      have ii_228 : S_223.1 8 = nI tm := (aw_226.1 8 (by decide)).trans h8
      have ii_229 : S_223.1 9 = nI ab := (aw_226.1 9 (by decide)).trans h9
      have ii_230 : S_223.1 10 = nI lv := (aw_226.1 10 (by decide)).trans h10
      obtain ⟨cx_231C, cx_231E⟩ := hw_224.2
      clear hw_224
      obtain ⟨cx_231T, cx_231V, cx_231X, cx_231Y, cx_231Q, cx_231a, cx_231bb, cx_231c⟩ := id cx_231C
      have cx_231h := cr0.tr cx_231Q
      obtain ⟨-, cx_231t1, cx_231t2, -⟩ := id cx_231Q
      obtain ⟨cx_231u1, cx_231u2, cx_231u3, cx_231u4⟩ := cx_231Q.1.2.1
      obtain ⟨cx_231R, cx_231e⟩ : ∃ R, cp fu z (one z t9) 2 ab lv = R := ⟨_, rfl⟩
      have cx_231L : Lx z cx_231R.1 := by rw [← cx_231e]; exact x_cp fu z (one z t9) 2 ab lv
      have cx_231zl : Lx z cx_231R.1 := Lx.tr Lx.rf cx_231L
      rw [cx_231e] at cx_231E
      obtain ⟨cx_231k, cx_231m, cx_231q, cx_231s0, cx_231g, cx_231b⟩ := cx_231E
      have cx_231s := sg_tr (S := S) (Y := Y) (Y1 := Y) (fun _ _ => ⟨rfl, rfl⟩) cx_231s0 (by omega)
      have cx_231n6 := cx_231k.1.2.2.2.2.2.2.2.1
      rcases Nat.eq_zero_or_pos (sto cx_231R.1) with cx_231z | cx_231z
      · skip
        obtain ⟨cx_231v, cx_231x⟩ := cx_231g cx_231z
        subst cx_231v
        have cx_2310 : 0 ≤ nI cx_231R.2 := Int32.not_lt.mp (nI_n0 (by omega))
        have cx_231ye : cx_231Y = Y := cx_231c (Int32.not_lt.mpr cx_2310)
        rw [cx_231ye] at cx_231h
        clear cx_231g cx_231b cx_231c cx_231C
        refine lv_istore (lv' := [(5, .int (nI cx_231R.2)), (4, .int (nI (ks z t9))), (0, .ref (ga G 4)), (1, .int (nI t9)), (2, .int 2), (3, .int (nI dp))]) hx hb dX5_copied_61 hl (by decide) rfl (fun ls hl => ?_)
        refine lv_iload hx hb dX5_copied_63 (lv_at hl 0 rfl) ?_
        refine lv_if_ge (tgt := 73) hx hb dX5_copied_65 (by decide) (fun c_232 => ?_) (fun c_232 => absurd (Int32.not_lt.mp (nI_n0 (by omega))) c_232)
        refine lv_aload_n hx hb dX5_copied_73 rfl (lv_at hl 2 rfl) ?_
        refine lv_aload_n hx hb dX5_copied_74 rfl (lv_at hl 2 rfl) ?_
        refine va_get (D := gD G) (ci := 5) (v := .ref (ga G 2)) (C := RX5) (T := TX5) (N := 15) hx hb htu cu_in5 hown hK hP 4 cw_4 rfl 1 (by decide) (htu _ C_45) (fun _ h9 => h9) rfl dX5_copied_75 ?_
        refine lv_iload_n hx hb dX5_copied_78 rfl (lv_at hl 3 rfl) ?_
        have hC0 := hC
        refine c_ci (c_runV (As := [.int (nI t9)]) (rest := [.ref (ga G 4)]) (q0 := 2) (ci := 4) ⟨hx, hb, hml, hown, htu⟩ (y_secondOf l G S_223 (nI t9) hC  H) (cwV 1 htu hU_X5_181 rfl rfl rfl (by decide +kernel) ⟨show 1 + 1 ≤ (fu + 1) + 4 by omega, show 8 + (2 + 11) + 21 ≤ 42 * (fu + 1) + 140 by omega⟩) hP hK hD hC hpp cw_2 rfl rfl hl.1 rfl (lv_room (Nat.le_of_ble_eq_true rfl)) dX5_copied_79) hS hD hh hpp (fun r_233 S_234 H locs hw_235 hP hD hS hC hh hs_236 hpq => ?_)
        clear hpp
        have hpp := hpq
        clear hpq
        obtain ⟨-, hu9, hw_235⟩ := hw_235
        have hu9 := hu9.symm
        subst hu9
        obtain ⟨l1, l2, l3, l4, l5, l6, l7⟩ := lx_at cx_231zl ht
        have g5 := (cx_231k.f1 l1 (l2.trans hs1)).2.1
        rw [l5] at g5
        obtain rfl : r_233 = nI (two z t9) := hw_235.trans g5
        refine lv_iload_n hx hb dX5_copied_82 rfl (lv_at hl 4 rfl) ?_
        refine lv_iload_n hx hb dX5_copied_83 rfl (lv_at hl 5 rfl) ?_
        refine lv_iconst (v := 1) hx hb dX5_copied_84 (by decide) ?_
        refine lv_iadd hx hb dX5_copied_85 ?_
        refine m_top (y := nI (dp + 1)) (nI_1 dp) ?_
        have hC0 := hC
        refine c_ci (c_runV (As := [.int (nI (two z t9)), .int 2, .int (nI (dp + 1))]) (rest := []) (q0 := 4) (ci := 5) ⟨hx, hb, hml, hown, htu⟩ (ih l G S_223 cx_231T cx_231V cx_231X Y Z K 0 (dp + 1) 2 cx_231R.1 (two z t9) ab lv tm hC cx_231h.1 cx_231h.2.2.2.2.2 hKK kk_227 ((Or.inl ⟨rfl, rfl⟩)) ((by decide)) ((by omega)) ((by omega)) ii_228 ii_229 ii_230 htm hlv hab cx_231k cx_231m cx_231q cx_231z ((Nat.lt_of_lt_of_le g4 cx_231L.1)) H) (cwV 3 htu hU_X5_131 rfl rfl rfl (by decide +kernel) ⟨show (fu + 4) + 1 ≤ (fu + 1) + 4 by omega, show 8 + (12 + 11) + (42 * fu + 140) ≤ 42 * (fu + 1) + 140 by omega⟩) hP hK hD hC hpp cw_4 rfl rfl hl.1 rfl (lv_room (Nat.le_of_ble_eq_true rfl)) dX5_copied_86) hS hD hh hpp (fun r_237 S_238 H locs hw_239 hP hD hS hC hh hs_240 hpq => ?_)
        clear hpp
        have hpp := hpq
        clear hpq
        try dsimp only at hw_239
        have aw_241 : AW [6, 7, 8, 9, 16, 14, 10, 11, 12, 13, 25, 26, 35] [] S_223 S_238 := hw_239.1
        have aw_241t : AW [6, 7, 8, 9, 16, 14, 10, 11, 12, 13, 25, 26, 35] [] S S_238 := aw_226t.tr (aw_241.mono (by decide) (by decide))
        have kk_242 : kK S_238 15 = 0 := (aw_241.2.1 15 (lt35 (by decide)) (by decide)).2.trans kk_227
        have ii_243 : S_238.1 8 = nI tm := (aw_241.1 8 (by decide)).trans ii_228
        have ii_244 : S_238.1 9 = nI ab := (aw_241.1 9 (by decide)).trans ii_229
        have ii_245 : S_238.1 10 = nI lv := (aw_241.1 10 (by decide)).trans ii_230
        obtain ⟨cx_246C, cx_246E⟩ := hw_239.2
        clear hw_239
        obtain ⟨cx_246T, cx_246V, cx_246X, cx_246Y, cx_246Q, cx_246a, cx_246bb, cx_246c⟩ := id cx_246C
        have cx_246h := cx_231h.tr cx_246Q
        obtain ⟨-, cx_246t1, cx_246t2, -⟩ := id cx_246Q
        obtain ⟨cx_246u1, cx_246u2, cx_246u3, cx_246u4⟩ := cx_246Q.1.2.1
        obtain ⟨cx_246R, cx_246e⟩ : ∃ R, cp fu cx_231R.1 (two z t9) 2 ab lv = R := ⟨_, rfl⟩
        have cx_246L : Lx cx_231R.1 cx_246R.1 := by rw [← cx_246e]; exact x_cp fu cx_231R.1 (two z t9) 2 ab lv
        have cx_246zl : Lx z cx_246R.1 := Lx.tr cx_231zl cx_246L
        rw [cx_246e] at cx_246E
        obtain ⟨cx_246k, cx_246m, cx_246q, cx_246s0, cx_246g, cx_246b⟩ := cx_246E
        have cx_246s := sg_tr (S := S) (Y := Y) (Y1 := Y) cx_231s cx_246s0 (by omega)
        have cx_246n6 := cx_246k.1.2.2.2.2.2.2.2.1
        rcases Nat.eq_zero_or_pos (sto cx_246R.1) with cx_246z | cx_246z
        · skip
          obtain ⟨cx_246v, cx_246x⟩ := cx_246g cx_246z
          subst cx_246v
          have cx_2460 : 0 ≤ nI cx_246R.2 := Int32.not_lt.mp (nI_n0 (by omega))
          have cx_246ye : cx_246Y = Y := cx_246c (Int32.not_lt.mpr cx_2460)
          rw [cx_246ye] at cx_246h
          clear cx_246g cx_246b cx_246c cx_246C
          refine lv_istore (lv' := [(6, .int (nI cx_246R.2)), (5, .int (nI cx_231R.2)), (4, .int (nI (ks z t9))), (0, .ref (ga G 4)), (1, .int (nI t9)), (2, .int 2), (3, .int (nI dp))]) hx hb dX5_copied_89 hl (by decide) rfl (fun ls hl => ?_)
          refine lv_iload hx hb dX5_copied_91 (lv_at hl 0 rfl) ?_
          refine lv_if_ge (tgt := 101) hx hb dX5_copied_93 (by decide) (fun c_247 => ?_) (fun c_247 => absurd (Int32.not_lt.mp (nI_n0 (by omega))) c_247)
          refine lv_aload_n hx hb dX5_copied_101 rfl (lv_at hl 3 rfl) ?_
          refine va_get (D := gD G) (ci := 5) (v := .ref (ga G 2)) (C := RX5) (T := TX5) (N := 15) hx hb htu cu_in5 hown hK hP 4 cw_4 rfl 1 (by decide) (htu _ C_45) (fun _ h9 => h9) rfl dX5_copied_102 ?_
          refine lv_iload hx hb dX5_copied_105 (lv_at hl 1 rfl) ?_
          refine lv_iload hx hb dX5_copied_107 (lv_at hl 0 rfl) ?_
          have hC0 := hC
          refine c_ci (c_runV (As := [.int (nI cx_231R.2), .int (nI cx_246R.2)]) (rest := []) (q0 := 2) (ci := 4) ⟨hx, hb, hml, hown, htu⟩ (x_addFunction l G S_238 cx_246T cx_246V cx_246V cx_246X Y Z cx_231R.2 cx_246R.2 cx_246R.1 hC cx_246h.1 cx_246k cx_246z ((Nat.lt_of_lt_of_le cx_231x cx_246L.1)) cx_246x H) (cwV 2 htu hU_X5_147 rfl rfl rfl (by decide +kernel) ⟨show 4 + 1 ≤ (fu + 1) + 4 by omega, show 8 + (3 + 11) + 128 ≤ 42 * (fu + 1) + 140 by omega⟩) hP hK hD hC hpp cw_2 rfl rfl hl.1 rfl (lv_room (Nat.le_of_ble_eq_true rfl)) dX5_copied_109) hS hD hh hpp (fun r_248 S_249 H locs hw_250 hP hD hS hC hh hs_251 hpq => ?_)
          clear hpp
          have hpp := hpq
          clear hpq
          try dsimp only at hw_250
          have aw_252 : AW [6, 7, 8, 9, 16] [] S_238 S_249 := hw_250.1
          have aw_252t : AW [6, 7, 8, 9, 16, 14, 10, 11, 12, 13, 25, 26, 35] [] S S_249 := aw_241t.tr (aw_252.mono (by decide) (by decide))
          have kk_253 : kK S_249 15 = 0 := (aw_252.2.1 15 (lt35 (by decide)) (by decide)).2.trans kk_242
          have ii_254 : S_249.1 8 = nI tm := (aw_252.1 8 (by decide)).trans ii_243
          have ii_255 : S_249.1 9 = nI ab := (aw_252.1 9 (by decide)).trans ii_244
          have ii_256 : S_249.1 10 = nI lv := (aw_252.1 10 (by decide)).trans ii_245
          have hw_2509 := hw_250.2
          clear hw_250
          rcases hw_2509 with ⟨ty_257v, ty_257s, ty_257f⟩ | ⟨ty_257v, ty_257t, ty_257, ty_257o, ⟨ty_257kt, ty_257k2, ty_257k0⟩, ty_257l⟩
          · skip
            subst ty_257v
            exact c_iret (v := (-6)) hx hb hr hK hP hD hS hC hh hpp ⟨aw_252t, ⟨⟨cx_246T, cx_246V, cx_246X, Y, (by rw [ty_257s]; exact cx_246h), by omega, by omega, fun h => absurd (by decide) h⟩, by rw [ty_257s]; exact XE.full cx_246k cx_246m cx_246q cx_246s cx_246z (by rw [cp_fn h0 hgt hs1, show otw 2 = 2 from rfl, cx_231e, cx_246e, mkA_f cx_246z ty_257f])⟩⟩ dX5_copied_112 hlocks
          · skip
            subst ty_257v
            have hzT : nT cx_246R.1 = cx_246T := cx_246k.1.1.symm.trans cx_246h.1.1.1
            have n602 : nT cx_246R.1 ≠ 602 := by have := ty_257t; omega
            obtain ⟨km9, kq9⟩ := kx_fun ty_257kt cx_246m cx_246q aw_252 (by rw [hzT]; exact ty_257l) (ty_257.1.2.2.2.2.1.trans (by rw [hzT])) cx_246z n602
            have sg9 := sg_aw (S := S) (Y := Y) cx_246s aw_252 (by decide)
            have nt9 : nT (mkA cx_246R.1 cx_231R.2 cx_246R.2).1 = nT cx_246R.1 + 1 := by rw [mkA_e cx_246z n602]; rfl
            have er9 : cp (fu + 1) z t9 2 ab lv = mkA cx_246R.1 cx_231R.2 cx_246R.2 := by rw [cp_fn h0 hgt hs1, show otw 2 = 2 from rfl, cx_231e, cx_246e]
            exact c_iret (v := nI cx_246T) hx hb hr hK hP hD hS hC hh hpp ⟨aw_252t, ⟨⟨_, _, _, _, cx_246h.step ty_257 (Nat.le_succ _) ty_257o (aw_252.bnd (by decide) cx_246h.1.2.1.2.2.1), Nat.le_refl _, Nat.le_add_right _ _, fun _ => rfl⟩, XE.good ty_257kt km9 kq9 sg9 ty_257k0 rfl (by rw [nt9]; omega) (er9.trans (Prod.ext rfl ty_257k2))⟩⟩ dX5_copied_112 hlocks
        · skip
          have cx_246zz : sto cx_246R.1 ≠ 0 := by omega
          have cx_246v := cx_246b cx_246zz
          have cx_246nn : ¬ 0 ≤ r_237 := Int32.not_le.mpr (by rw [cx_246v]; exact sc_neg cx_246zz)
          clear cx_246g cx_246b cx_246c cx_246C
          refine lv_istore (lv' := [(6, .int r_237), (5, .int (nI cx_231R.2)), (4, .int (nI (ks z t9))), (0, .ref (ga G 4)), (1, .int (nI t9)), (2, .int 2), (3, .int (nI dp))]) hx hb dX5_copied_89 hl (by decide) rfl (fun ls hl => ?_)
          refine lv_iload hx hb dX5_copied_91 (lv_at hl 0 rfl) ?_
          refine lv_if_ge (tgt := 101) hx hb dX5_copied_93 (by decide) (fun c_258 => absurd c_258 cx_246nn) (fun c_258 => ?_)
          refine lv_iload hx hb dX5_copied_96 (lv_at hl 0 rfl) ?_
          refine lv_goto (tgt := 112) hx hb dX5_copied_98 (by decide) ?_
          exact c_iret (v := r_237) hx hb hr hK hP hD hS hC hh hpp ⟨aw_241t, ⟨⟨cx_246T, cx_246V, cx_246X, cx_246Y, cx_246h, by omega, by omega, fun h => absurd (Int32.not_le.mp cx_246nn) h⟩, XE.stp cx_246k cx_246m cx_246q cx_246s cx_246zz cx_246v (x := 0) (by rw [cp_fn h0 hgt hs1, show otw 2 = 2 from rfl, cx_231e, cx_246e, mkA_st cx_246zz])⟩⟩ dX5_copied_112 hlocks
      · skip
        have cx_231zz : sto cx_231R.1 ≠ 0 := by omega
        have cx_231v := cx_231b cx_231zz
        have cx_231nn : ¬ 0 ≤ r_222 := Int32.not_le.mpr (by rw [cx_231v]; exact sc_neg cx_231zz)
        clear cx_231g cx_231b cx_231c cx_231C
        refine lv_istore (lv' := [(5, .int r_222), (4, .int (nI (ks z t9))), (0, .ref (ga G 4)), (1, .int (nI t9)), (2, .int 2), (3, .int (nI dp))]) hx hb dX5_copied_61 hl (by decide) rfl (fun ls hl => ?_)
        refine lv_iload hx hb dX5_copied_63 (lv_at hl 0 rfl) ?_
        refine lv_if_ge (tgt := 73) hx hb dX5_copied_65 (by decide) (fun c_259 => absurd c_259 cx_231nn) (fun c_259 => ?_)
        refine lv_iload hx hb dX5_copied_68 (lv_at hl 0 rfl) ?_
        refine lv_goto (tgt := 89) hx hb dX5_copied_70 (by decide) ?_
        refine lv_istore (lv' := [(6, .int r_222), (5, .int r_222), (4, .int (nI (ks z t9))), (0, .ref (ga G 4)), (1, .int (nI t9)), (2, .int 2), (3, .int (nI dp))]) hx hb dX5_copied_89 hl (by decide) rfl (fun ls hl => ?_)
        refine lv_iload hx hb dX5_copied_91 (lv_at hl 0 rfl) ?_
        refine lv_if_ge (tgt := 101) hx hb dX5_copied_93 (by decide) (fun c_260 => absurd c_260 cx_231nn) (fun c_260 => ?_)
        refine lv_iload hx hb dX5_copied_96 (lv_at hl 0 rfl) ?_
        refine lv_goto (tgt := 112) hx hb dX5_copied_98 (by decide) ?_
        exact c_iret (v := r_222) hx hb hr hK hP hD hS hC hh hpp ⟨aw_226t, ⟨⟨cx_231T, cx_231V, cx_231X, cx_231Y, cx_231h, by omega, by omega, fun h => absurd (Int32.not_le.mp cx_231nn) h⟩, XE.stp cx_231k cx_231m cx_231q cx_231s cx_231zz cx_231v (x := 0) (by rw [cp_fn h0 hgt hs1, show otw 2 = 2 from rfl, cx_231e, cp_stop cx_231zz, mkA_st cx_231zz])⟩⟩ dX5_copied_112 hlocks
  · skip
    have nc_6 : ¬ ab < lev z t9 := fun h9 => c_6 ((nI_ltI (a := ab) (b := lev z t9) (by omega) (by omega)).mpr h9)
    refine lv_iload_n hx hb dX5_copied_24 rfl (lv_at hl 1 rfl) ?_
    exact c_iret (v := nI t9) hx hb hr hK hP hD hS hC hh hpp ⟨AW.rf, ⟨⟨T, V, X, Y, cr0, by omega, by omega, fun _ => by omega⟩, XE.good hz hm hkq (fun _ _ => ⟨rfl, rfl⟩) h0 rfl ht (cp_le h0 (by have := nc_6; omega))⟩⟩ dX5_copied_25 hlocks

