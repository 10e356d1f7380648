set_option maxHeartbeats 4000000 in
set_option maxRecDepth 100000 in
/-- copied, way 1 -/
theorem x_copied_s1 (l : Launch) (G : cG) (S : cS) (fu : Nat) (T : Nat) (V : Nat) (X : Nat) (Y : Nat) (Z : Nat) (K : Nat) (dp : Nat) (z : aS) (t9 : Nat) (ab : Nat) (lv : Nat) (tm : Nat) (hC : CL S) (ih : xCopiedAt fu) (hY : TY S T V V X Y Z) (hBD : ∀ j, j < 2 * V → kK S (35 + j) ≤ K + V) (hKK : K ≤ 1501) (h15 : kK S 15 = 0) (hdp : dp + (fu + 1) = 61) (hY2 : Y + 6 * (fu + 1) ≤ 900) (h8 : S.1 8 = nI tm) (h9 : S.1 9 = nI ab) (h10 : S.1 10 = nI lv) (htm : tm < 2 ^ 30) (hlv : lv ≤ 100) (hab : ab ≤ 100) (hz : KT S z) (hm : KM S z tm) (hkq : KQ S z) (h0 : sto z = 0) (ht : t9 < nT z) (Hs : Heap) : Met l yX5_copied (wC yX5_copied cX5_copied 12 (some .int)) (cRm S ((fu + 1) + 4) (42 * (fu + 1) + 140)) (cPc G S Hs [.ref (ga G 4), .int (nI t9), .int 1, .int (nI dp)]) (cQi G S Hs (fun v u => AW [6, 7, 8, 9, 16, 14, 10, 11, 12, 13, 25, 26, 35] [] S u ∧ (CX S u T V Y Z K 1 (fu + 1) v ∧ XE S u Y tm (cp ((fu + 1)) z t9 1 ab lv) v))) (CC - PT S) (12 * (CC - PT S)) (cA G S Hs.size) := by
  refine Met.ofW (cc := cX5_copied) (maxL := 12) (ret := (some .int)) (by decide) rfl ?_
  intro p e s m args below meth c s₁ B hml hv
  obtain ⟨rfl, hsz, hP, hK, hD0, -⟩ := hv
  have hx := B.exec
  have hb := B.bytes
  have hr := B.returns
  have htu : ∀ w ∈ CU, w.before _ s = true := fun w h => atoms_spec (ws := (wC yX5_copied cX5_copied 12 (some .int))) B.pre w (List.mem_cons_of_mem _ h)
  have hown : s.vm.findClass RX5 = some m.cls := findClass_of_methodNamed B.named
  have hlocks := B.notSynchronized
  subst hsz
  have hD : cD (cA G S s.heap.size) G S := cD_self hD0
  have hl := lv_entry ([.ref (ga G 4), .int (nI t9), .int 1, .int (nI dp)]) (n := 12) (Nat.le_of_ble_eq_true rfl)
  rw [lg_entry_eq]
  generalize (lg_sl ([.ref (ga G 4), .int (nI t9), .int 1, .int (nI dp)]) ++ List.replicate (12 - (lg_sl ([.ref (ga G 4), .int (nI t9), .int 1, .int (nI dp)])).length) Slot.unset).toArray = ls at hl ⊢
  have hl : lv_has ls 12 [(0, .ref (ga G 4)), (1, .int (nI t9)), (2, .int 1), (3, .int (nI dp))] := hl
  obtain ⟨H, hHe⟩ : ∃ H : Heap, H = s.heap := ⟨_, rfl⟩
  rw [← hHe] at hP
  have hS : va_S (cA G S s.heap.size) s.heap H [] := by rw [hHe]; exact va_S.rf
  have hh : HS S S := HS.rf
  have hpp : PT S ≤ PT S := Nat.le_refl _
  have hB9 := hC.1
  refine W.heq hHe ?_
  refine c_ent (S := S) ?_
  obtain ⟨⟨k6, k7, k8, k9, k16, k14, k10, k11, k12, k13, k17, k18⟩, ⟨tT, tV, tB, tX⟩, tv, tr, ts⟩ := id hY
  have cr0 : CR S S T V K 1 T V X Y Z := CR.rf hY hBD
  have rk := hz.ks4 ht
  have rl := hz.lv ht
  have hTz : nT z = T := hz.1.1.symm.trans k6
  have hVz : nV z = V := hz.1.2.2.2.2.1.symm.trans k14
  refine lv_iload_n hx hb dX5_copied_0 rfl (lv_at hl 3 rfl) ?_
  refine lv_bipush (v := 60) hx hb dX5_copied_1 (by decide) ?_
  refine lv_icmp_le (tgt := 9) hx hb dX5_copied_3 (by decide) (fun c_1 => ?_) (fun c_1 => absurd ((nI_leI (a := dp) (b := 60) (by omega) (by omega)).mpr (by omega)) c_1)
  refine lv_aload_n hx hb dX5_copied_9 rfl (lv_at hl 0 rfl) ?_
  refine va_get (D := gD G) (ci := 5) (v := .ref (ga G 2)) (C := RX5) (T := TX5) (N := 15) hx hb htu cu_in5 hown hK hP 4 cw_4 rfl 1 (by decide) (htu _ C_45) (fun _ h9 => h9) rfl dX5_copied_10 ?_
  refine lv_iload_n hx hb dX5_copied_13 rfl (lv_at hl 1 rfl) ?_
  have hC0 := hC
  refine c_ci (c_runV (As := [.int (nI t9)]) (rest := []) (q0 := 2) (ci := 4) ⟨hx, hb, hml, hown, htu⟩ (y_levelOf l G S (nI t9) hC  H) (cwV 1 htu hU_X5_206 rfl rfl rfl (by decide +kernel) ⟨show 1 + 1 ≤ (fu + 1) + 4 by omega, show 8 + (2 + 11) + 21 ≤ 42 * (fu + 1) + 140 by omega⟩) hP hK hD hC hpp cw_2 rfl rfl hl.1 rfl (lv_room (Nat.le_of_ble_eq_true rfl)) dX5_copied_14) hS hD hh hpp (fun r_2 S_3 H locs hw_4 hP hD hS hC hh hs_5 hpq => ?_)
  clear hpp
  have hpp := hpq
  clear hpq
  obtain ⟨-, hu9, hw_4⟩ := hw_4
  have hu9 := hu9.symm
  subst hu9
  obtain rfl : r_2 = nI (lev z t9) := hw_4.trans (hz.rl ht)
  refine lv_aload_n hx hb dX5_copied_17 rfl (lv_at hl 0 rfl) ?_
  refine va_get (D := gD G) (ci := 5) (v := .int (nI ab)) (C := RX5) (T := TX5) (N := 15) hx hb htu cu_in5 hown hK hP 4 cw_4 rfl 9 (by decide) (htu _ C_307) (fun _ h9 => h9) (m_v h9) dX5_copied_18 ?_
  refine lv_icmp_gt (tgt := 26) hx hb dX5_copied_21 (by decide) (fun c_6 => ?_) (fun c_6 => ?_)
  · skip
    have nc_6 : ab < lev z t9 := (nI_ltI (a := ab) (b := lev z t9) (by omega) (by omega)).mp c_6
    refine lv_aload_n hx hb dX5_copied_26 rfl (lv_at hl 0 rfl) ?_
    refine va_get (D := gD G) (ci := 5) (v := .ref (ga G 2)) (C := RX5) (T := TX5) (N := 15) hx hb htu cu_in5 hown hK hP 4 cw_4 rfl 1 (by decide) (htu _ C_45) (fun _ h9 => h9) rfl dX5_copied_27 ?_
    refine lv_iload_n hx hb dX5_copied_30 rfl (lv_at hl 1 rfl) ?_
    have hC0 := hC
    refine c_ci (c_runV (As := [.int (nI t9)]) (rest := []) (q0 := 2) (ci := 4) ⟨hx, hb, hml, hown, htu⟩ (y_sortOf l G S (nI t9) hC  H) (cwV 1 htu hU_X5_209 rfl rfl rfl (by decide +kernel) ⟨show 1 + 1 ≤ (fu + 1) + 4 by omega, show 8 + (2 + 11) + 21 ≤ 42 * (fu + 1) + 140 by omega⟩) hP hK hD hC hpp cw_2 rfl rfl hl.1 rfl (lv_room (Nat.le_of_ble_eq_true rfl)) dX5_copied_31) hS hD hh hpp (fun r_7 S_8 H locs hw_9 hP hD hS hC hh hs_10 hpq => ?_)
    clear hpp
    have hpp := hpq
    clear hpq
    obtain ⟨-, hu9, hw_9⟩ := hw_9
    have hu9 := hu9.symm
    subst hu9
    obtain rfl : r_7 = nI (ks z t9) := hw_9.trans (hz.rs ht)
    have hgt : ¬ lev z t9 ≤ ab := by have := nc_6; omega
    refine lv_istore (lv' := [(4, .int (nI (ks z t9))), (0, .ref (ga G 4)), (1, .int (nI t9)), (2, .int 1), (3, .int (nI dp))]) hx hb dX5_copied_34 hl (by decide) rfl (fun ls hl => ?_)
    refine lv_iload hx hb dX5_copied_36 (lv_at hl 0 rfl) ?_
    refine lv_iconst (v := 2) hx hb dX5_copied_38 (by decide) ?_
    refine lv_icmp_ne (tgt := 113) hx hb dX5_copied_39 (by decide) (fun c_11 => ?_) (fun c_11 => ?_)
    · skip
      have nc_11 : ¬ ks z t9 = 2 := fun h9 => c_11 ((nI_eq (a := ks z t9) (b := 2) (by omega) (by omega)).mpr h9)
      refine lv_iload hx hb dX5_copied_113 (lv_at hl 0 rfl) ?_
      refine lv_iconst (v := 3) hx hb dX5_copied_115 (by decide) ?_
      refine lv_icmp_ne (tgt := 211) hx hb dX5_copied_116 (by decide) (fun c_12 => ?_) (fun c_12 => ?_)
      · skip
        have nc_12 : ¬ ks z t9 = 3 := fun h9 => c_12 ((nI_eq (a := ks z t9) (b := 3) (by omega) (by omega)).mpr h9)
        refine lv_iconst (v := 2) hx hb dX5_copied_211 (by decide) ?_
        refine lv_aload_n hx hb dX5_copied_212 rfl (lv_at hl 1 rfl) ?_
        refine va_get (D := gD G) (ci := 5) (v := .ref (ga G 2)) (C := RX5) (T := TX5) (N := 15) hx hb htu cu_in5 hown hK hP 4 cw_4 rfl 1 (by decide) (htu _ C_45) (fun _ h9 => h9) rfl dX5_copied_213 ?_
        refine lv_iload_n hx hb dX5_copied_216 rfl (lv_at hl 2 rfl) ?_
        have hC0 := hC
        refine c_ci (c_runV (As := [.int (nI t9)]) (rest := [.int 2]) (q0 := 2) (ci := 4) ⟨hx, hb, hml, hown, htu⟩ (x_numberOf l G S (nI t9) hC  H) (cwV 1 htu hU_X5_224 rfl rfl rfl (by decide +kernel) ⟨show 1 + 1 ≤ (fu + 1) + 4 by omega, show 8 + (2 + 11) + 21 ≤ 42 * (fu + 1) + 140 by omega⟩) hP hK hD hC hpp cw_2 rfl rfl hl.1 rfl (lv_room (Nat.le_of_ble_eq_true rfl)) dX5_copied_217) hS hD hh hpp (fun r_13 S_14 H locs hw_15 hP hD hS hC hh hs_16 hpq => ?_)
        clear hpp
        have hpp := hpq
        clear hpq
        obtain ⟨-, hu9, hw_15⟩ := hw_15
        have hu9 := hu9.symm
        subst hu9
        have hs3 : srt z t9 = 3 := hz.k3 ht nc_11 nc_12 hgt
        have hi4 : rget (kF S 6) (kK S 6) (nI t9) = 4 := (hz.is ht (k := 4) (by decide) (by decide)).mpr (by rw [hs3])
        obtain ⟨f1, f2, f3⟩ := hz.f3 ht hs3
        obtain rfl : r_13 = nI (one z t9) := (hw_15 hi4).trans f1
        clear hw_15
        have hv150 := hz.1.2.2.2.2.2.2.2.2.1
        refine lv_imul hx hb dX5_copied_220 ?_
        refine m_top (y := nI (2 * (one z t9))) (pk_mul 2 (one z t9)) ?_
        refine lv_iload_n hx hb dX5_copied_221 rfl (lv_at hl 3 rfl) ?_
        refine lv_iconst (v := 1) hx hb dX5_copied_222 (by decide) ?_
        refine lv_icmp_ne (tgt := 230) hx hb dX5_copied_223 (by decide) (fun c_17 => absurd (by decide) c_17) (fun c_17 => ?_)
        refine lv_iconst (v := 1) hx hb dX5_copied_226 (by decide) ?_
        refine lv_goto (tgt := 231) hx hb dX5_copied_227 (by decide) ?_
        refine lv_iadd hx hb dX5_copied_231 ?_
        refine m_top (y := nI (2 * (one z t9) + 1)) (nI_add (2 * (one z t9)) 1) ?_
        refine lv_istore (lv' := [(5, .int (nI (2 * (one z t9) + 1))), (4, .int (nI (ks z t9))), (0, .ref (ga G 4)), (1, .int (nI t9)), (2, .int 1), (3, .int (nI dp))]) hx hb dX5_copied_232 hl (by decide) rfl (fun ls hl => ?_)
        refine lv_aload_n hx hb dX5_copied_234 rfl (lv_at hl 2 rfl) ?_
        refine va_get (D := gD G) (ci := 5) (v := .ref (kH S 26)) (C := RX5) (T := TX5) (N := 15) hx hb htu cu_in5 hown hK hP 4 cw_4 rfl 7 (by decide) (htu _ C_56) (fun _ h9 => h9) rfl dX5_copied_235 ?_
        refine lv_iload hx hb dX5_copied_238 (lv_at hl 0 rfl) ?_
        have hC0 := hC
        refine c_ci (c_runV (As := [.int (nI (2 * (one z t9) + 1))]) (rest := []) (q0 := (2 * 26 + 13)) (ci := 0) ⟨hx, hb, hml, hown, htu⟩ (c_getA l G S 26 (lt35 (by decide)) hC (kH S 26) rfl (nI (2 * (one z t9) + 1)) H) (cwV 1 htu hU_X5_124 rfl rfl rfl (by decide +kernel) ⟨show 0 + 1 ≤ (fu + 1) + 4 by omega, show 8 + (2 + 11) + 0 ≤ 42 * (fu + 1) + 140 by omega⟩) hP hK hD hC hpp (c_hd rfl (cw_row (lt35 (by decide)))) rfl rfl hl.1 rfl (lv_room (Nat.le_of_ble_eq_true rfl)) dX5_copied_240) hS hD hh hpp (fun r_18 S_19 H locs hw_20 hP hD hS hC hh hs_21 hpq => ?_)
        clear hpp
        have hpp := hpq
        clear hpq
        obtain ⟨hu9, hw_20⟩ := hw_20
        have hu9 := hu9.symm
        subst hu9
        obtain ⟨md1, md2⟩ := hm.rd (q := 2 * one z t9 + 1) (by omega) htm
        have hmk : mkey z t9 1 = 2 * one z t9 + 1 := mkey_lt (by decide)
        by_cases hme : memo z (2 * one z t9 + 1) = 0
        · skip
          refine lv_aload_n hx hb dX5_copied_243 rfl (lv_at hl 2 rfl) ?_
          refine va_get (D := gD G) (ci := 5) (v := .int (nI tm)) (C := RX5) (T := TX5) (N := 15) hx hb htu cu_in5 hown hK hP 4 cw_4 rfl 8 (by decide) (htu _ C_306) (fun _ h9 => h9) (m_v h8) dX5_copied_244 ?_
          refine lv_icmp_ne (tgt := 260) hx hb dX5_copied_247 (by decide) (fun c_22 => ?_) (fun c_22 => absurd c_22 (fun h => md1 hme (hw_20.symm.trans h)))
          refine lv_aload_n hx hb dX5_copied_260 rfl (lv_at hl 2 rfl) ?_
          refine va_get (D := gD G) (ci := 5) (v := .ref (ga G 2)) (C := RX5) (T := TX5) (N := 15) hx hb htu cu_in5 hown hK hP 4 cw_4 rfl 1 (by decide) (htu _ C_45) (fun _ h9 => h9) rfl dX5_copied_261 ?_
          refine lv_aload_n hx hb dX5_copied_264 rfl (lv_at hl 2 rfl) ?_
          refine va_get (D := gD G) (ci := 5) (v := .int (nI lv)) (C := RX5) (T := TX5) (N := 15) hx hb htu cu_in5 hown hK hP 4 cw_4 rfl 10 (by decide) (htu _ C_308) (fun _ h9 => h9) (m_v h10) dX5_copied_265 ?_
          have hC0 := hC
          refine c_ci (c_runV (As := [.int (nI lv)]) (rest := []) (q0 := 2) (ci := 4) ⟨hx, hb, hml, hown, htu⟩ (x_addVariable l G S T V V X Y Z z lv hC hY rfl hz hlv H) (cwV 1 htu hU_X5_137 rfl rfl rfl (by decide +kernel) ⟨show 4 + 1 ≤ (fu + 1) + 4 by omega, show 8 + (4 + 11) + 128 ≤ 42 * (fu + 1) + 140 by omega⟩) hP hK hD hC hpp cw_2 rfl rfl hl.1 rfl (lv_room (Nat.le_of_ble_eq_true rfl)) dX5_copied_268) hS hD hh hpp (fun r_23 S_24 H locs hw_25 hP hD hS hC hh hs_26 hpq => ?_)
          clear hpp
          have hpp := hpq
          clear hpq
          try dsimp only at hw_25
          have aw_27 : AW [6, 7, 8, 9, 16, 14, 35] [] S S_24 := hw_25.1
          have aw_27t : AW [6, 7, 8, 9, 16, 14, 10, 11, 12, 13, 25, 26, 35] [] S S_24 := AW.rf.tr (aw_27.mono (by decide) (by decide))
          have kk_28 : kK S_24 15 = 0 := (aw_27.2.1 15 (lt35 (by decide)) (by decide)).2.trans h15
          have ii_29 : S_24.1 8 = nI tm := (aw_27.1 8 (by decide)).trans h8
          have ii_30 : S_24.1 9 = nI ab := (aw_27.1 9 (by decide)).trans h9
          have ii_31 : S_24.1 10 = nI lv := (aw_27.1 10 (by decide)).trans h10
          have hw_259 := hw_25.2
          clear hw_25
          rcases hw_259 with ⟨ty_32v, ty_32s, ty_32f⟩ | ⟨ty_32v, ty_32t, ty_32, ty_32o, ty_324, ty_328, ty_32r, ⟨ty_32150, ty_32kt⟩, ty_32l⟩
          · skip
            subst ty_32v
            refine lv_istore (lv' := [(6, .int ((-6))), (5, .int (nI (2 * (one z t9) + 1))), (4, .int (nI (ks z t9))), (0, .ref (ga G 4)), (1, .int (nI t9)), (2, .int 1), (3, .int (nI dp))]) hx hb dX5_copied_271 hl (by decide) rfl (fun ls hl => ?_)
            refine lv_iload hx hb dX5_copied_273 (lv_at hl 0 rfl) ?_
            refine lv_if_ge (tgt := 281) hx hb dX5_copied_275 (by decide) (fun c_33 => absurd c_33 (by decide)) (fun c_33 => ?_)
            refine lv_iload hx hb dX5_copied_278 (lv_at hl 0 rfl) ?_
            exact c_iret (v := (-6)) hx hb hr hK hP hD hS hC hh hpp ⟨aw_27t, ⟨⟨T, V, X, Y, (by rw [ty_32s]; exact cr0), by omega, by omega, fun h => absurd (by decide) h⟩, by rw [ty_32s]; exact XE.full hz hm hkq (fun _ _ => ⟨rfl, rfl⟩) h0 (cp_no2 h0 hgt hs3 (by rw [hmk]; exact hme) ty_32f)⟩⟩ dX5_copied_280 hlocks
          · skip
            subst ty_32v
            refine lv_istore (lv' := [(6, .int (nI T)), (5, .int (nI (2 * (one z t9) + 1))), (4, .int (nI (ks z t9))), (0, .ref (ga G 4)), (1, .int (nI t9)), (2, .int 1), (3, .int (nI dp))]) hx hb dX5_copied_271 hl (by decide) rfl (fun ls hl => ?_)
            refine lv_iload hx hb dX5_copied_273 (lv_at hl 0 rfl) ?_
            refine lv_if_ge (tgt := 281) hx hb dX5_copied_275 (by decide) (fun c_34 => ?_) (fun c_34 => absurd (Int32.not_lt.mp (nI_n0 (by omega))) c_34)
            obtain ⟨ty_32q, ty_32w, ty_32x, ty_32y⟩ := ty_32r
            obtain ⟨va1, va2⟩ := kx_var (l := lv) hm hkq aw_27 (by rw [hTz]; exact ty_32l) (ty_32.1.2.2.2.2.1.trans (by rw [hTz]))
            have va3 := sg_aw (S := S) (S1 := S) (Y := Y) (fun _ _ => ⟨rfl, rfl⟩) aw_27 (by decide)
            have n602 : nT z ≠ 602 := by have := ty_32t; omega
            have hmv : mkV z lv = (newV z lv, nT z) := mkV_e (by omega) n602
            have zT1 : nT (newV z lv) = T + 1 := congrArg (· + 1) hTz
            refine lv_aload_n hx hb dX5_copied_281 rfl (lv_at hl 3 rfl) ?_
            refine va_get (D := gD G) (ci := 5) (v := .ref (kH S 25)) (C := RX5) (T := TX5) (N := 15) hx hb htu cu_in5 hown hK hP 4 cw_4 rfl 6 (by decide) (htu _ C_55) (fun _ h9 => h9) (c_hv (hh.2 25 (lt35 (by decide)))) dX5_copied_282 ?_
            refine lv_iload hx hb dX5_copied_285 (lv_at hl 1 rfl) ?_
            refine lv_iload hx hb dX5_copied_287 (lv_at hl 0 rfl) ?_
            have hC0 := hC
            refine c_cv (c_runV (As := [.int (nI (2 * (one z t9) + 1)), .int (nI T)]) (rest := []) (q0 := (2 * 25 + 13)) (ci := 0) ⟨hx, hb, hml, hown, htu⟩ (c_setA l G S_24 25 (lt35 (by decide)) hC (kH S 25) (hh.2 25 (lt35 (by decide))) (nI (2 * (one z t9) + 1)) (nI T) H) (cwV 2 htu hU_X5_134 rfl rfl rfl (by decide +kernel) ⟨show 0 + 1 ≤ (fu + 1) + 4 by omega, show 8 + (3 + 11) + 0 ≤ 42 * (fu + 1) + 140 by omega⟩) hP hK hD hC hpp (c_hd (hh.2 25 (lt35 (by decide))) (cw_row (lt35 (by decide)))) rfl rfl hl.1 rfl (lv_room (Nat.le_of_ble_eq_true rfl)) dX5_copied_289) hS hD hh hpp (fun S_36 H locs hw_37 hP hD hS hC hh hs_38 hpq => ?_)
            clear hpp
            have hpp := hpq
            clear hpq
            try dsimp only at hw_37
            have aw_39 : AW [25] [] S_24 S_36 := (by rw [hw_37]; exact AW.u (by decide))
            have aw_39t : AW [6, 7, 8, 9, 16, 14, 10, 11, 12, 13, 25, 26, 35] [] S S_36 := aw_27t.tr (aw_39.mono (by decide) (by decide))
            have kk_40 : kK S_36 15 = 0 := (aw_39.2.1 15 (lt35 (by decide)) (by decide)).2.trans kk_28
            have ii_41 : S_36.1 8 = nI tm := (aw_39.1 8 (by decide)).trans ii_29
            have ii_42 : S_36.1 9 = nI ab := (aw_39.1 9 (by decide)).trans ii_30
            have ii_43 : S_36.1 10 = nI lv := (aw_39.1 10 (by decide)).trans ii_31
            have ty_44 := TY.aw ty_32 aw_39 (by decide)
            refine lv_aload_n hx hb dX5_copied_292 rfl (lv_at hl 3 rfl) ?_
            refine va_get (D := gD G) (ci := 5) (v := .ref (kH S 26)) (C := RX5) (T := TX5) (N := 15) hx hb htu cu_in5 hown hK hP 4 cw_4 rfl 7 (by decide) (htu _ C_56) (fun _ h9 => h9) (c_hv (hh.2 26 (lt35 (by decide)))) dX5_copied_293 ?_
            refine lv_iload hx hb dX5_copied_296 (lv_at hl 1 rfl) ?_
            refine lv_aload_n hx hb dX5_copied_298 rfl (lv_at hl 3 rfl) ?_
            refine va_get (D := gD G) (ci := 5) (v := .int (nI tm)) (C := RX5) (T := TX5) (N := 15) hx hb htu cu_in5 hown hK hP 4 cw_4 rfl 8 (by decide) (htu _ C_306) (fun _ h9 => h9) (m_v ii_41) dX5_copied_299 ?_
            have hC0 := hC
            refine c_cv (c_runV (As := [.int (nI (2 * (one z t9) + 1)), .int (nI tm)]) (rest := []) (q0 := (2 * 26 + 13)) (ci := 0) ⟨hx, hb, hml, hown, htu⟩ (c_setA l G S_36 26 (lt35 (by decide)) hC (kH S 26) (hh.2 26 (lt35 (by decide))) (nI (2 * (one z t9) + 1)) (nI tm) H) (cwV 2 htu hU_X5_134 rfl rfl rfl (by decide +kernel) ⟨show 0 + 1 ≤ (fu + 1) + 4 by omega, show 8 + (3 + 11) + 0 ≤ 42 * (fu + 1) + 140 by omega⟩) hP hK hD hC hpp (c_hd (hh.2 26 (lt35 (by decide))) (cw_row (lt35 (by decide)))) rfl rfl hl.1 rfl (lv_room (Nat.le_of_ble_eq_true rfl)) dX5_copied_302) hS hD hh hpp (fun S_46 H locs hw_47 hP hD hS hC hh hs_48 hpq => ?_)
            clear hpp
            have hpp := hpq
            clear hpq
            try dsimp only at hw_47
            have aw_49 : AW [26] [] S_36 S_46 := (by rw [hw_47]; exact AW.u (by decide))
            have aw_49t : AW [6, 7, 8, 9, 16, 14, 10, 11, 12, 13, 25, 26, 35] [] S S_46 := aw_39t.tr (aw_49.mono (by decide) (by decide))
            have kk_50 : kK S_46 15 = 0 := (aw_49.2.1 15 (lt35 (by decide)) (by decide)).2.trans kk_40
            have ii_51 : S_46.1 8 = nI tm := (aw_49.1 8 (by decide)).trans ii_41
            have ii_52 : S_46.1 9 = nI ab := (aw_49.1 9 (by decide)).trans ii_42
            have ii_53 : S_46.1 10 = nI lv := (aw_49.1 10 (by decide)).trans ii_43
            have ty_54 := TY.aw ty_44 aw_49 (by decide)
            have hmk2 : 2 * one z t9 + 1 < 300 := by omega
            have r25 : kF S_36 25 = upd (kF S_24 25) (2 * one z t9 + 1) (nI T) := by rw [hw_37, uR_F, va1.1, rset_at hmk2 (by decide)]
            have r26 : kF S_46 26 = upd (kF S_36 26) (2 * one z t9 + 1) (nI tm) := by rw [hw_47, uR_F, (aw_39.2.1 26 (lt35 (by decide)) (by decide)).2, va1.2.1, rset_at hmk2 (by decide)]
            have km2 : KM S_46 (w1 (newV z lv) 7 (2 * one z t9 + 1) (nT z + 1)) tm := KM.nw va1 ⟨((aw_49.2.1 25 (lt35 (by decide)) (by decide)).2).trans ((by rw [hw_37, uR_K] : kK S_36 25 = kK S_24 25).trans va1.1), by rw [(aw_49.2.1 25 (lt35 (by decide)) (by decide)).1, r25, upd_s, hTz], fun i hi => by rw [(aw_49.2.1 25 (lt35 (by decide)) (by decide)).1, r25, upd_n hi]⟩ ⟨((by rw [hw_47, uR_K] : kK S_46 26 = kK S_36 26)).trans (((aw_39.2.1 26 (lt35 (by decide)) (by decide)).2).trans va1.2.1), by rw [r26, upd_s], fun i hi => by rw [r26, upd_n hi, (aw_39.2.1 26 (lt35 (by decide)) (by decide)).1]⟩
            have kt2 : KT S_46 (w1 (newV z lv) 7 (2 * one z t9 + 1) (nT z + 1)) := ((ty_32kt.aw aw_39 (by decide)).aw aw_49 (by decide)).w 7 _ _ (Or.inr (by decide))
            have kq2 : KQ S_46 (w1 (newV z lv) 7 (2 * one z t9 + 1) (nT z + 1)) := (va2.aw aw_39 (by decide) rfl rfl).aw aw_49 (by decide) rfl rfl
            have sg2 := sg_aw (sg_aw va3 aw_39 (by decide)) aw_49 (by decide)
            have L2 : Lx z (w1 (newV z lv) 7 (2 * one z t9 + 1) (nT z + 1)) := (x_newV z lv).tr (Lx.w1 _ 7 _ _ (Or.inr (by decide)))
            obtain ⟨m1, m2, m3, m4, m5, m6, m7⟩ := lx_at L2 ht
            refine lv_iload_n hx hb dX5_copied_305 rfl (lv_at hl 5 rfl) ?_
            refine lv_if_ne (tgt := 323) hx hb dX5_copied_306 (by decide) (fun c_55 => ?_) (fun c_55 => absurd c_55 (by decide))
            refine lv_iload_n hx hb dX5_copied_323 rfl (lv_at hl 5 rfl) ?_
            refine lv_iconst (v := 1) hx hb dX5_copied_324 (by decide) ?_
            refine lv_icmp_ne (tgt := 342) hx hb dX5_copied_325 (by decide) (fun c_56 => absurd (by decide) c_56) (fun c_56 => ?_)
            refine lv_aload_n hx hb dX5_copied_328 rfl (lv_at hl 3 rfl) ?_
            refine va_get (D := gD G) (ci := 5) (v := .ref (ga G 2)) (C := RX5) (T := TX5) (N := 15) hx hb htu cu_in5 hown hK hP 4 cw_4 rfl 1 (by decide) (htu _ C_45) (fun _ h9 => h9) rfl dX5_copied_329 ?_
            refine lv_iload_n hx hb dX5_copied_332 rfl (lv_at hl 4 rfl) ?_
            refine lv_iconst (v := 0) hx hb dX5_copied_333 (by decide) ?_
            have hC0 := hC
            refine c_cr (c_runV (As := [.int (nI t9), .int 0]) (rest := []) (q0 := 2) (ci := 4) ⟨hx, hb, hml, hown, htu⟩ (y_boundsOf l G S_46 (T + 1) (V + 1) (V + 1) X Y Z (nI t9) 0 hC ty_54 ((Nat.le_refl _)) ((by decide)) H) (cwV 2 htu hU_X5_196 rfl rfl rfl (by decide +kernel) ⟨show 1 + 1 ≤ (fu + 1) + 4 by omega, show 8 + (5 + 11) + 21 ≤ 42 * (fu + 1) + 140 by omega⟩) hP hK hD hC hpp cw_2 rfl rfl hl.1 rfl (lv_room (Nat.le_of_ble_eq_true rfl)) dX5_copied_334) hS hD hh hpp (fun r_57 S_58 H locs hw_59 hP hD hS hC hh hs_60 hpq => ?_)
            clear hpp
            have hpp := hpq
            clear hpq
            obtain ⟨-, hu9, hw_59⟩ := hw_59
            have hu9 := hu9.symm
            subst hu9
            obtain ⟨br_61r, br_61e, br_611⟩ := hw_59
            have br_61b := ty_54.2.1.2.2.1
            have br_61l : br_61r < 35 + kB S_46 := bnd_lt br_611 br_61b (by decide)
            have br_61h : kH S_46 br_61r = r_57 := br_61e.symm
            refine lv_iload hx hb dX5_copied_337 (lv_at hl 0 rfl) ?_
            have lk_62q : br_61r = 35 + (2 * one z t9 + 0) := (kt2.bof m1 (m2.trans hs3) br_611 (by omega) (by omega)).trans (by rw [m4])
            clear br_611
            have lk_62oc : OC S S_46 T := ((((ty_32o).tr (OC.aw (T := T) aw_39 (by decide)) (Nat.le_refl _))).tr (OC.aw (T := T) aw_49 (by decide)) (Nat.le_refl _))
            have lk_62w2 : one z t9 < V := by omega
            have lk_62k : kK S_46 br_61r = kK S br_61r := by rw [lk_62q]; exact (((aw_49.bnd (V := V) (by decide) (Nat.le_trans (Nat.mul_le_mul_left 2 (Nat.le_succ V)) (Nat.le_trans ty_32.2.1.2.2.1 aw_39.2.2.2.1)) (2 * one z t9 + 0) (by omega)).trans ((aw_39.bnd (V := V) (by decide) (Nat.le_trans (Nat.mul_le_mul_left 2 (Nat.le_succ V)) ty_32.2.1.2.2.1) (2 * one z t9 + 0) (by omega)).trans rfl))).trans (ty_32w (2 * one z t9 + 0) (by omega))
            have lk_62l : kK S br_61r ≤ K + V := by rw [lk_62q]; exact hBD _ (by omega)
            have hC0 := hC
            refine c_cv (c_runV (As := [.int (nI T)]) (rest := []) (q0 := (2 * br_61r + 13)) (ci := 0) ⟨hx, hb, hml, hown, htu⟩ (c_addA l G S_46 br_61r br_61l hC r_57 br_61h (nI T) (by rw [lk_62k, lk_62q, lim_b (Nat.le_add_right 35 _), ← lk_62q]; omega) H) (cwV 1 htu hU_X5_200 rfl rfl rfl (by decide +kernel) ⟨show 2 + 1 ≤ (fu + 1) + 4 by omega, show 8 + (2 + 11) + 82 ≤ 42 * (fu + 1) + 140 by omega⟩) hP hK hD hC hpp (c_hd br_61h (cw_row br_61l)) rfl rfl hl.1 rfl (lv_room (Nat.le_of_ble_eq_true rfl)) dX5_copied_339) hS hD hh hpp (fun S_64 H locs hw_65 hP hD hS hC hh hs_66 hpq => ?_)
            clear hpp
            have hpp := hpq
            clear hpq
            try dsimp only at hw_65
            have aw_67 : AW [35] [] S_46 S_64 := (by obtain ⟨_, _, _, h9, -, -⟩ := hw_65; rw [h9]; exact AW.u (by first | (simp; omega) | simp))
            have aw_67t : AW [6, 7, 8, 9, 16, 14, 10, 11, 12, 13, 25, 26, 35] [] S S_64 := aw_49t.tr (aw_67.mono (by decide) (by decide))
            have kk_68 : kK S_64 15 = 0 := (aw_67.2.1 15 (lt35 (by decide)) (by decide)).2.trans kk_50
            have ii_69 : S_64.1 8 = nI tm := (aw_67.1 8 (by decide)).trans ii_51
            have ii_70 : S_64.1 9 = nI ab := (aw_67.1 9 (by decide)).trans ii_52
            have ii_71 : S_64.1 10 = nI lv := (aw_67.1 10 (by decide)).trans ii_53
            have ha_72r : br_61r < 35 + kB S_64 := by have := hs_66.1; have := br_61l; omega
            have ha_72 : kH S_64 br_61r = r_57 := (hs_66.2 br_61r br_61l).trans br_61h
            have ty_73 := TY.aw ty_54 aw_67 (by decide)
            obtain ⟨ad_74n, ad_74q, ad_74g, ad_74u, ad_741, ad_742⟩ := hw_65
            have hcv : (cpV z t9 1 lv) = bind (w1 (newV z lv) 7 (2 * one z t9 + 1) (nT z + 1)) t9 0 (nT z) := cpV_lt (by decide)
            have kt3 : KT S_64 (cpV z t9 1 lv) := by
              rw [hcv]
              refine kt_bind kt2 m1 (m2.trans hs3) (by decide) (show nT z < nT z + 1 from Nat.lt_succ_self _) (n := ad_74n) (q := ad_74q) (g := ad_74g) ?_ ?_ ?_
              · rw [m4, ← lk_62q]; exact ad_74u
              · rw [m4, ← lk_62q]; exact ad_741
              · rw [m4, ← lk_62q, hTz]; exact ad_742
            have km3 : KM S_64 (cpV z t9 1 lv) tm := by rw [hcv]; exact km2.aw aw_67 (by decide) (fun _ => rfl) (Nat.le_refl _)
            have kq3 : KQ S_64 (cpV z t9 1 lv) := by rw [hcv]; exact kq2.aw aw_67 (by decide) rfl rfl
            have sg3 := sg_aw sg2 aw_67 (by decide)
            have h03 : sto (cpV z t9 1 lv) = 0 := by rw [hcv]; exact h0
            have L3 : Lx z (cpV z t9 1 lv) := by rw [hcv]; exact L2.tr (x_bind _ _ _ _ (by decide))
            have z6 : OC S S_64 T := ((((((ty_32o).tr (OC.aw (T := T) aw_39 (by decide)) (Nat.le_refl _))).tr (OC.aw (T := T) aw_49 (by decide)) (Nat.le_refl _))).tr (OC.aw (T := T) aw_67 (by decide)) (Nat.le_refl _))
            have zb : ∀ j, j < 2 * (V + 1) → kK S_46 (35 + j) = kK S_24 (35 + j) := fun j hj => ((aw_49.bnd (V := V + 1) (by decide) (Nat.le_trans ty_32.2.1.2.2.1 aw_39.2.2.2.1) (j) hj).trans ((aw_39.bnd (V := V + 1) (by decide) ty_32.2.1.2.2.1 (j) hj).trans rfl))
            have zl : ∀ j, kK S_64 (35 + j) ≤ kK S_46 (35 + j) + 1 ∧ (35 + j ≠ br_61r → kK S_64 (35 + j) = kK S_46 (35 + j)) := fun j => by
              by_cases e : 35 + j = br_61r
              · rw [e, ad_74u, uR_K]; exact ⟨Nat.le_refl _, fun h => absurd rfl h⟩
              · rw [ad_74u, uR_Ko e]; exact ⟨Nat.le_succ _, fun _ => rfl⟩
            have cr1 : CR S S_64 T V K 1 (T + 1) (V + 1) X Y Z := CR.var hBD ty_73 z6 (Nat.le_refl _) (fun j hj => by have h1 := (zl j).1; rw [zb j (by omega), ty_32w j hj] at h1; exact h1) (((zl (2 * V)).2 (by omega)).trans ((zb (2 * V) (by omega)).trans ty_32x)) (((zl (2 * V + 1)).2 (by omega)).trans ((zb (2 * V + 1) (by omega)).trans ty_32y))
            have q6 : kF S_64 6 T = 4 := (by rw [(aw_67.2.1 6 (lt35 (by decide)) (by decide)).1]; exact (by rw [(aw_49.2.1 6 (lt35 (by decide)) (by decide)).1]; exact (by rw [(aw_39.2.1 6 (lt35 (by decide)) (by decide)).1]; exact ty_324)))
            have q8 : kF S_64 8 T = nI V := (by rw [(aw_67.2.1 8 (lt35 (by decide)) (by decide)).1]; exact (by rw [(aw_49.2.1 8 (lt35 (by decide)) (by decide)).1]; exact (by rw [(aw_39.2.1 8 (lt35 (by decide)) (by decide)).1]; exact ty_328)))
            have q0 : kK S_64 (35 + (2 * V + 0)) = 0 ∧ kK S_64 (35 + (2 * V + 1)) = 0 := ⟨((zl (2 * V)).2 (by omega)).trans ((zb (2 * V) (by omega)).trans ty_32x), ((zl (2 * V + 1)).2 (by omega)).trans ((zb (2 * V + 1) (by omega)).trans ty_32y)⟩
            have tV1 : V + 1 ≤ 150 := ty_73.2.1.2.1
            have tT1 : T + 1 ≤ 602 := ty_73.2.1.1
            obtain ⟨za, hza⟩ : ∃ za, za = (cpV z t9 1 lv) := ⟨_, rfl⟩
            have kta : KT S_64 za := by rw [hza]; exact kt3
            have kma : KM S_64 za tm := by rw [hza]; exact km3
            have kqa : KQ S_64 za := by rw [hza]; exact kq3
            have h0a : sto za = 0 := by rw [hza]; exact h03
            have La : Lx z za := by rw [hza]; exact L3
            have hTa : nT za = nT z + 1 := by rw [hza]; rfl
            obtain ⟨o1, o2, o3, o4, o5, o6, o7⟩ := lx_at La ht
            have hsT : srt za T = 3 ∧ one za T = V := by rw [← hTz, ← hVz, hza]; exact ⟨if_pos rfl, if_pos rfl⟩
            clear m1 m2 m3 m4 m5 m6 m7
            have er1 : cp (fu + 1) z t9 1 ab lv = (cpR (fun s x => cp fu s x 1 ab lv) T 1 za (row za 1 t9), T) := by rw [cp_vL h0 (by decide) hgt hs3 (by first | exact hme | (rw [Nat.add_zero]; exact hme)) hmv, hza, hTz]
            refine lv_iconst (v := 0) hx hb dX5_copied_342 (by decide) ?_
            refine lv_istore (lv' := [(7, .int 0), (6, .int (nI T)), (5, .int (nI (2 * (one z t9) + 1))), (4, .int (nI (ks z t9))), (0, .ref (ga G 4)), (1, .int (nI t9)), (2, .int 1), (3, .int (nI dp))]) hx hb dX5_copied_343 hl (by decide) rfl (fun ls hl => ?_)
            refine lv_iload hx hb dX5_copied_345 (lv_at hl 0 rfl) ?_
            refine lv_iconst (v := 1) hx hb dX5_copied_347 (by decide) ?_
            refine lv_icmp_gt (tgt := 445) hx hb dX5_copied_348 (by decide) (fun c_75 => absurd c_75 (by decide)) (fun c_75 => ?_)
            refine lv_iload hx hb dX5_copied_351 (lv_at hl 0 rfl) ?_
            refine lv_iload_n hx hb dX5_copied_353 rfl (lv_at hl 6 rfl) ?_
            have hC0 := hC
            refine c_ci (c_runS (As := [.int 0, .int 1]) (rest := []) ⟨hx, hb, hml, hown, htu⟩ (g_isTaken l G S_64 0 1 hC  H) (va_cwS 2 htu hU_X5_227 rfl rfl rfl (by decide +kernel) ⟨show 0 + 1 ≤ (fu + 1) + 4 by omega, show 8 + (2 + 11) + 0 ≤ 42 * (fu + 1) + 140 by omega⟩) hP hK hD hC hpp rfl hl.1 rfl (lv_room (Nat.le_of_ble_eq_true rfl)) dX5_copied_354) hS hD hh hpp (fun r_76 S_77 H locs hw_78 hP hD hS hC hh hs_79 hpq => ?_)
            clear hpp
            have hpp := hpq
            clear hpq
            obtain ⟨-, hu9, hw_78⟩ := hw_78
            have hu9 := hu9.symm
            subst hu9
            obtain rfl : r_76 = 0 := hw_78.trans (by decide)
            refine lv_if_ne (tgt := 363) hx hb dX5_copied_357 (by decide) (fun c_80 => absurd (by decide) c_80) (fun c_80 => ?_)
            refine lv_goto (tgt := 439) hx hb dX5_copied_360 (by decide) ?_
            refine lv_iinc (v := 1) (lv' := [(7, .int 1), (6, .int (nI T)), (5, .int (nI (2 * (one z t9) + 1))), (4, .int (nI (ks z t9))), (0, .ref (ga G 4)), (1, .int (nI t9)), (2, .int 1), (3, .int (nI dp))]) hx hb dX5_copied_439 hl (k := 0) rfl (by decide) (by decide) rfl (fun ls hl => ?_)
            refine lv_goto (tgt := 345) hx hb dX5_copied_442 (by decide) ?_
            refine lv_iload hx hb dX5_copied_345 (lv_at hl 0 rfl) ?_
            refine lv_iconst (v := 1) hx hb dX5_copied_347 (by decide) ?_
            refine lv_icmp_gt (tgt := 445) hx hb dX5_copied_348 (by decide) (fun c_81 => absurd c_81 (by decide)) (fun c_81 => ?_)
            refine lv_iload hx hb dX5_copied_351 (lv_at hl 0 rfl) ?_
            refine lv_iload_n hx hb dX5_copied_353 rfl (lv_at hl 6 rfl) ?_
            have hC0 := hC
            refine c_ci (c_runS (As := [.int 1, .int 1]) (rest := []) ⟨hx, hb, hml, hown, htu⟩ (g_isTaken l G S_64 1 1 hC  H) (va_cwS 2 htu hU_X5_227 rfl rfl rfl (by decide +kernel) ⟨show 0 + 1 ≤ (fu + 1) + 4 by omega, show 8 + (2 + 11) + 0 ≤ 42 * (fu + 1) + 140 by omega⟩) hP hK hD hC hpp rfl hl.1 rfl (lv_room (Nat.le_of_ble_eq_true rfl)) dX5_copied_354) hS hD hh hpp (fun r_82 S_83 H locs hw_84 hP hD hS hC hh hs_85 hpq => ?_)
            clear hpp
            have hpp := hpq
            clear hpq
            obtain ⟨-, hu9, hw_84⟩ := hw_84
            have hu9 := hu9.symm
            subst hu9
            obtain rfl : r_82 = 1 := hw_84.trans (by decide)
            refine lv_if_ne (tgt := 363) hx hb dX5_copied_357 (by decide) (fun c_86 => ?_) (fun c_86 => absurd c_86 (by decide))
            refine lv_aload_n hx hb dX5_copied_363 rfl (lv_at hl 4 rfl) ?_
            refine va_get (D := gD G) (ci := 5) (v := .ref (ga G 2)) (C := RX5) (T := TX5) (N := 15) hx hb htu cu_in5 hown hK hP 4 cw_4 rfl 1 (by decide) (htu _ C_45) (fun _ h9 => h9) rfl dX5_copied_364 ?_
            refine lv_iload_n hx hb dX5_copied_367 rfl (lv_at hl 5 rfl) ?_
            refine lv_iload hx hb dX5_copied_368 (lv_at hl 0 rfl) ?_
            have hC0 := hC
            refine c_cr (c_runV (As := [.int (nI t9), .int 1]) (rest := []) (q0 := 2) (ci := 4) ⟨hx, hb, hml, hown, htu⟩ (y_boundsOf l G S_64 (T + 1) (V + 1) (V + 1) X Y Z (nI t9) 1 hC ty_73 ((Nat.le_refl _)) ((by decide)) H) (cwV 2 htu hU_X5_196 rfl rfl rfl (by decide +kernel) ⟨show 1 + 1 ≤ (fu + 1) + 4 by omega, show 8 + (5 + 11) + 21 ≤ 42 * (fu + 1) + 140 by omega⟩) hP hK hD hC hpp cw_2 rfl rfl hl.1 rfl (lv_room (Nat.le_of_ble_eq_true rfl)) dX5_copied_370) hS hD hh hpp (fun r_87 S_88 H locs hw_89 hP hD hS hC hh hs_90 hpq => ?_)
            clear hpp
            have hpp := hpq
            clear hpq
            obtain ⟨-, hu9, hw_89⟩ := hw_89
            have hu9 := hu9.symm
            subst hu9
            obtain ⟨br_91r, br_91e, br_911⟩ := hw_89
            have br_91b := ty_73.2.1.2.2.1
            have br_91l : br_91r < 35 + kB S_64 := bnd_lt br_911 br_91b (by decide)
            have br_91h : kH S_64 br_91r = r_87 := br_91e.symm
            refine lv_astore (lv' := [(8, .ref r_87), (7, .int 1), (6, .int (nI T)), (5, .int (nI (2 * (one z t9) + 1))), (4, .int (nI (ks z t9))), (0, .ref (ga G 4)), (1, .int (nI t9)), (2, .int 1), (3, .int (nI dp))]) hx hb dX5_copied_373 hl (by decide) rfl (fun ls hl => ?_)
            refine lv_aload hx hb dX5_copied_375 (lv_at hl 0 rfl) ?_
            refine va_get (D := gD G) (ci := 0) (v := .int (nI (kK S_64 br_91r))) (C := RX0) (T := TX0) (N := 2) hx hb htu cu_in0 hown hK hP (2 * br_91r + 13) (c_hd br_91h (cw_row br_91l)) rfl 1 (by decide) (htu _ C_313) (fun _ h9 => h9) rfl dX5_copied_377 ?_
            refine lv_istore (lv' := [(9, .int (nI (kK S_64 br_91r))), (8, .ref r_87), (7, .int 1), (6, .int (nI T)), (5, .int (nI (2 * (one z t9) + 1))), (4, .int (nI (ks z t9))), (0, .ref (ga G 4)), (1, .int (nI t9)), (2, .int 1), (3, .int (nI dp))]) hx hb dX5_copied_380 hl (by decide) rfl (fun ls hl => ?_)
            refine lv_iconst (v := 0) hx hb dX5_copied_382 (by decide) ?_
            refine lv_istore (lv' := [(10, .int 0), (9, .int (nI (kK S_64 br_91r))), (8, .ref r_87), (7, .int 1), (6, .int (nI T)), (5, .int (nI (2 * (one z t9) + 1))), (4, .int (nI (ks z t9))), (0, .ref (ga G 4)), (1, .int (nI t9)), (2, .int 1), (3, .int (nI dp))]) hx hb dX5_copied_383 hl (by decide) rfl (fun ls hl => ?_)
            obtain ⟨b11, b12, b13, b14, b15, b16, b17⟩ := lx_at La ht
            have b1q : br_91r = 35 + (2 * one za t9 + 1) := kta.bof b11 (b12.trans hs3) br_911 cr1.1.2.1.1 cr1.1.2.1.2.1
            clear br_911
            obtain ⟨ah, eah⟩ : ∃ x, x = kK S_64 br_91r := ⟨_, rfl⟩
            have b1l : ah = (row za 1 t9).length := eah.trans (by rw [b1q]; exact (kta.bn b11 (b12.trans hs3) (by decide)).1)
            have hah : ah ≤ K + (V + 1) := by
              rw [eah, b1q]
              exact cr1.2.2.2.2.2 _ (by have := (kta.f3 b11 (b12.trans hs3)).2.1; have := kta.1.2.2.2.2.1; have := cr1.1.1.2.2.2.2.2.1; omega)
            rw [← eah] at hl
            refine w_loop (fun j H locs k sl g => ∃ (S1 : cS) (T1 : Nat) (V1 : Nat) (X1 : Nat) (zi : aS) (i : Nat) (ls : Array Slot), CL S1 ∧ HS S S1 ∧ PT S ≤ PT S1 ∧ AW [6, 7, 8, 9, 16, 14, 10, 11, 12, 13, 25, 26, 35] [] S S1 ∧ i + j = ah ∧ CR S S1 T V K 1 T1 V1 X1 Y Z ∧ (V + 1) ≤ V1 ∧ T + 1 ≤ T1 ∧ kK S1 (35 + (2 * V + 1)) ≤ i + 1 * (V1 - (V + 1)) ∧ kF S1 6 T = 4 ∧ kF S1 8 T = nI V ∧ kH S1 br_91r = r_87 ∧ br_91r < 35 + kB S1 ∧ KT S1 zi ∧ KM S1 zi tm ∧ KQ S1 zi ∧ sto zi = 0 ∧ Lx za zi ∧ cpR (fun s x => cp fu s x 1 ab lv) T 1 za (row za 1 t9) = cpR (fun s x => cp fu s x 1 ab lv) T 1 zi ((row za 1 t9).drop i) ∧ (∀ j, j < Y → kF S1 12 j = kF S 12 j ∧ kF S1 13 j = kF S 13 j) ∧ k = PT S1 - PT S ∧ sl = 12 * (PT S1 - PT S) ∧ cP G S1 H ∧ cD (cA G S s.heap.size) G S1 ∧ va_S (cA G S s.heap.size) s.heap H locs ∧ lv_has ls 12 [(0, .ref (ga G 4)), (1, .int (nI t9)), (2, .int 1), (3, .int (nI dp)), (5, .int (nI (2 * (one z t9) + 1))), (6, .int (nI T)), (7, .int 1), (8, .ref r_87), (9, .int (nI ah)), (10, .int (nI i))] ∧ g = F0 m 385 ls []) ?_ ?_ ah _ _ _ _ _ ⟨S_64, (T + 1), (V + 1), X, za, 0, ls, hC, hh, hpp, aw_67t, by omega, cr1, Nat.le_refl _, by omega, (by rw [q0.2]; exact Nat.zero_le _), q6, q8, br_91h, br_91l, kta, kma, kqa, h0a, Lx.rf, rfl, sg3, rfl, rfl, hP, hD, hS, lv_sub hl [7, 8, 9, 10, 5, 4, 3, 2, 1, 0] rfl, rfl⟩
            · intro H locs k sl g hI
              clear hpp
              obtain ⟨S1, T1, V1, X1, zi, i, ls, hC, hh, hpp, hAW, hp0, hp1, hp2, hp3, hp4, hp5, hp6, hp7, hp8, hp9, hp10, hp11, hp12, hp13, hp14, hp15, rfl, rfl, hP, hD, hS, hl, rfl⟩ := hI
              have x15 : kK S1 15 = 0 := (hAW.2.1 15 (lt35 (by decide)) (by decide)).2.trans h15
              have x8 : S1.1 8 = nI tm := (hAW.1 8 (by decide)).trans h8
              have x9 : S1.1 9 = nI ab := (hAW.1 9 (by decide)).trans h9
              have x10 : S1.1 10 = nI lv := (hAW.1 10 (by decide)).trans h10
              obtain ⟨yT, yV, yB, yX⟩ := hp1.1.2.1
              have hziT : nT zi = T1 := hp9.1.1.symm.trans hp1.1.1.1
              have hd_1 : cpR (fun s x => cp fu s x 1 ab lv) T 1 za (row za 1 t9) = zi := by rw [hp14, List.drop_eq_nil_of_le (by omega)]; rfl
              have er3 : cp (fu + 1) z t9 1 ab lv = (zi, T) := by rw [er1, hd_1]
              refine lv_iload hx hb dX5_copied_385 (lv_at hl 9 rfl) ?_
              refine lv_iload hx hb dX5_copied_387 (lv_at hl 8 rfl) ?_
              refine lv_icmp_ge (tgt := 439) hx hb dX5_copied_389 (by decide) (fun c_92 => ?_) (fun c_92 => absurd (nI_le (by omega) (by omega)) c_92)
              refine lv_iinc (v := 2) (lv' := [(7, .int 2), (0, .ref (ga G 4)), (1, .int (nI t9)), (2, .int 1), (3, .int (nI dp)), (5, .int (nI (2 * (one z t9) + 1))), (6, .int (nI T)), (8, .ref r_87), (9, .int (nI ah)), (10, .int (nI i))]) hx hb dX5_copied_439 hl (k := 6) rfl (by decide) (by decide) rfl (fun ls hl => ?_)
              refine lv_goto (tgt := 345) hx hb dX5_copied_442 (by decide) ?_
              refine lv_iload hx hb dX5_copied_345 (lv_at hl 0 rfl) ?_
              refine lv_iconst (v := 1) hx hb dX5_copied_347 (by decide) ?_
              refine lv_icmp_gt (tgt := 445) hx hb dX5_copied_348 (by decide) (fun c_93 => ?_) (fun c_93 => absurd (by decide) c_93)
              refine lv_iload hx hb dX5_copied_445 (lv_at hl 6 rfl) ?_
              exact c_iret (v := nI T) hx hb hr hK hP hD hS hC hh hpp ⟨hAW, ⟨⟨T1, V1, X1, Y, hp1, by omega, by omega, fun _ => by omega⟩, XE.good hp9 hp10 hp11 hp15 hp12 rfl (by omega) er3⟩⟩ dX5_copied_447 hlocks
            · intro j ih9 H locs k sl g hI
              clear hpp
              obtain ⟨S1, T1, V1, X1, zi, i, ls, hC, hh, hpp, hAW, hp0, hp1, hp2, hp3, hp4, hp5, hp6, hp7, hp8, hp9, hp10, hp11, hp12, hp13, hp14, hp15, rfl, rfl, hP, hD, hS, hl, rfl⟩ := hI
              have x15 : kK S1 15 = 0 := (hAW.2.1 15 (lt35 (by decide)) (by decide)).2.trans h15
              have x8 : S1.1 8 = nI tm := (hAW.1 8 (by decide)).trans h8
              have x9 : S1.1 9 = nI ab := (hAW.1 9 (by decide)).trans h9
              have x10 : S1.1 10 = nI lv := (hAW.1 10 (by decide)).trans h10
              obtain ⟨yT, yV, yB, yX⟩ := hp1.1.2.1
              have hziT : nT zi = T1 := hp9.1.1.symm.trans hp1.1.1.1
              have ni : i < ah := by omega
              refine lv_iload hx hb dX5_copied_385 (lv_at hl 9 rfl) ?_
              refine lv_iload hx hb dX5_copied_387 (lv_at hl 8 rfl) ?_
              refine lv_icmp_ge (tgt := 439) hx hb dX5_copied_389 (by decide) (fun c_94 => absurd c_94 (nI_ge (by omega) (by omega))) (fun c_94 => ?_)
              refine lv_aload_n hx hb dX5_copied_392 rfl (lv_at hl 0 rfl) ?_
              refine lv_aload hx hb dX5_copied_393 (lv_at hl 7 rfl) ?_
              refine lv_iload hx hb dX5_copied_395 (lv_at hl 9 rfl) ?_
              have hC0 := hC
              refine c_ci (c_runV (As := [.int (nI i)]) (rest := [.ref (ga G 4)]) (q0 := (2 * br_91r + 13)) (ci := 0) ⟨hx, hb, hml, hown, htu⟩ (c_getA l G S1 br_91r hp8 hC r_87 hp7 (nI i) H) (cwV 1 htu hU_X5_124 rfl rfl rfl (by decide +kernel) ⟨show 0 + 1 ≤ (fu + 1) + 4 by omega, show 8 + (2 + 11) + 0 ≤ 42 * (fu + 1) + 140 by omega⟩) hP hK hD hC hpp (c_hd hp7 (cw_row hp8)) rfl rfl hl.1 rfl (lv_room (Nat.le_of_ble_eq_true rfl)) dX5_copied_397) hS hD hh hpp (fun r_95 S_96 H locs hw_97 hP hD hS hC hh hs_98 hpq => ?_)
              clear hpp
              have hpp := hpq
              clear hpq
              obtain ⟨hu9, hw_97⟩ := hw_97
              have hu9 := hu9.symm
              subst hu9
              have hi1 : i < (row za 1 t9).length := by omega
              obtain ⟨pl1, pl2⟩ := hp9.pl hp13 b11 (b12.trans hs3) (by decide) hi1 (by rw [← b1q]; have := kK_lt hC hp8; omega)
              rw [← b1q] at pl1
              obtain rfl : r_95 = nI ((row za 1 t9).getD i 0) := hw_97.trans pl1
              refine lv_iload_n hx hb dX5_copied_400 rfl (lv_at hl 2 rfl) ?_
              refine lv_iload_n hx hb dX5_copied_401 rfl (lv_at hl 3 rfl) ?_
              refine lv_iconst (v := 1) hx hb dX5_copied_402 (by decide) ?_
              refine lv_iadd hx hb dX5_copied_403 ?_
              refine m_top (y := nI (dp + 1)) (nI_1 dp) ?_
              have hC0 := hC
              refine c_ci (c_runV (As := [.int (nI ((row za 1 t9).getD i 0)), .int 1, .int (nI (dp + 1))]) (rest := []) (q0 := 4) (ci := 5) ⟨hx, hb, hml, hown, htu⟩ (ih l G S1 T1 V1 X1 Y Z K 1 (dp + 1) 1 zi ((row za 1 t9).getD i 0) ab lv tm hC hp1.1 hp1.2.2.2.2.2 hKK x15 ((Or.inr ⟨by decide, rfl⟩)) ((by decide)) ((by omega)) ((by omega)) x8 x9 x10 htm hlv hab hp9 hp10 hp11 hp12 pl2 H) (cwV 3 htu hU_X5_131 rfl rfl rfl (by decide +kernel) ⟨show (fu + 4) + 1 ≤ (fu + 1) + 4 by omega, show 8 + (12 + 11) + (42 * fu + 140) ≤ 42 * (fu + 1) + 140 by omega⟩) hP hK hD hC hpp cw_4 rfl rfl hl.1 rfl (lv_room (Nat.le_of_ble_eq_true rfl)) dX5_copied_404) hS hD hh hpp (fun r_99 S_100 H locs hw_101 hP hD hS hC hh hs_102 hpq => ?_)
              clear hpp
              have hpp := hpq
              clear hpq
              try dsimp only at hw_101
              have aw_103 : AW [6, 7, 8, 9, 16, 14, 10, 11, 12, 13, 25, 26, 35] [] S1 S_100 := hw_101.1
              have aw_103t : AW [6, 7, 8, 9, 16, 14, 10, 11, 12, 13, 25, 26, 35] [] S S_100 := hAW.tr (aw_103.mono (by decide) (by decide))
              have kk_104 : kK S_100 15 = 0 := (aw_103.2.1 15 (lt35 (by decide)) (by decide)).2.trans x15
              have ii_105 : S_100.1 8 = nI tm := (aw_103.1 8 (by decide)).trans x8
              have ii_106 : S_100.1 9 = nI ab := (aw_103.1 9 (by decide)).trans x9
              have ii_107 : S_100.1 10 = nI lv := (aw_103.1 10 (by decide)).trans x10
              have ha_108r : br_91r < 35 + kB S_100 := by have := hs_102.1; have := hp8; omega
              have ha_108 : kH S_100 br_91r = r_87 := (hs_102.2 br_91r hp8).trans hp7
              obtain ⟨cx_109C, cx_109E⟩ := hw_101.2
              clear hw_101
              obtain ⟨cx_109T, cx_109V, cx_109X, cx_109Y, cx_109Q, cx_109a, cx_109bb, cx_109c⟩ := id cx_109C
              have cx_109h := hp1.tr cx_109Q
              obtain ⟨-, cx_109t1, cx_109t2, -⟩ := id cx_109Q
              obtain ⟨cx_109u1, cx_109u2, cx_109u3, cx_109u4⟩ := cx_109Q.1.2.1
              obtain ⟨cx_109R, cx_109e⟩ : ∃ R, cp fu zi ((row za 1 t9).getD i 0) 1 ab lv = R := ⟨_, rfl⟩
              have cx_109L : Lx zi cx_109R.1 := by rw [← cx_109e]; exact x_cp fu zi ((row za 1 t9).getD i 0) 1 ab lv
              have cx_109zl : Lx z cx_109R.1 := Lx.tr (Lx.tr La hp13) cx_109L
              rw [cx_109e] at cx_109E
              obtain ⟨cx_109k, cx_109m, cx_109q, cx_109s0, cx_109g, cx_109b⟩ := cx_109E
              have cx_109s := sg_tr (S := S) (Y := Y) (Y1 := Y) hp15 cx_109s0 (by omega)
              have cx_109n6 := cx_109k.1.2.2.2.2.2.2.2.1
              rcases Nat.eq_zero_or_pos (sto cx_109R.1) with cx_109z | cx_109z
              · skip
                obtain ⟨cx_109v, cx_109x⟩ := cx_109g cx_109z
                subst cx_109v
                have cx_1090 : 0 ≤ nI cx_109R.2 := Int32.not_lt.mp (nI_n0 (by omega))
                have cx_109ye : cx_109Y = Y := cx_109c (Int32.not_lt.mpr cx_1090)
                rw [cx_109ye] at cx_109h
                clear cx_109g cx_109b cx_109c cx_109C
                refine lv_istore (lv' := [(11, .int (nI cx_109R.2)), (0, .ref (ga G 4)), (1, .int (nI t9)), (2, .int 1), (3, .int (nI dp)), (5, .int (nI (2 * (one z t9) + 1))), (6, .int (nI T)), (7, .int 1), (8, .ref r_87), (9, .int (nI ah)), (10, .int (nI i))]) hx hb dX5_copied_407 hl (by decide) rfl (fun ls hl => ?_)
                refine lv_iload hx hb dX5_copied_409 (lv_at hl 0 rfl) ?_
                refine lv_if_ge (tgt := 417) hx hb dX5_copied_411 (by decide) (fun c_110 => ?_) (fun c_110 => absurd (Int32.not_lt.mp (nI_n0 (by omega))) c_110)
                refine lv_aload_n hx hb dX5_copied_417 rfl (lv_at hl 1 rfl) ?_
                refine va_get (D := gD G) (ci := 5) (v := .ref (ga G 2)) (C := RX5) (T := TX5) (N := 15) hx hb htu cu_in5 hown hK hP 4 cw_4 rfl 1 (by decide) (htu _ C_45) (fun _ h9 => h9) rfl dX5_copied_418 ?_
                refine lv_iload hx hb dX5_copied_421 (lv_at hl 6 rfl) ?_
                refine lv_iload hx hb dX5_copied_423 (lv_at hl 7 rfl) ?_
                have hC0 := hC
                refine c_cr (c_runV (As := [.int (nI T), .int 1]) (rest := []) (q0 := 2) (ci := 4) ⟨hx, hb, hml, hown, htu⟩ (y_boundsOf l G S_100 cx_109T cx_109V cx_109V cx_109X Y Z (nI T) 1 hC cx_109h.1 ((Nat.le_refl _)) ((by decide)) H) (cwV 2 htu hU_X5_196 rfl rfl rfl (by decide +kernel) ⟨show 1 + 1 ≤ (fu + 1) + 4 by omega, show 8 + (5 + 11) + 21 ≤ 42 * (fu + 1) + 140 by omega⟩) hP hK hD hC hpp cw_2 rfl rfl hl.1 rfl (lv_room (Nat.le_of_ble_eq_true rfl)) dX5_copied_425) hS hD hh hpp (fun r_111 S_112 H locs hw_113 hP hD hS hC hh hs_114 hpq => ?_)
                clear hpp
                have hpp := hpq
                clear hpq
                obtain ⟨-, hu9, hw_113⟩ := hw_113
                have hu9 := hu9.symm
                subst hu9
                obtain ⟨br_115r, br_115e, br_1151⟩ := hw_113
                have br_115b := cx_109h.1.2.1.2.2.1
                have br_115l : br_115r < 35 + kB S_100 := bnd_lt br_1151 br_115b (by decide)
                have br_115h : kH S_100 br_115r = r_111 := br_115e.symm
                refine lv_iload hx hb dX5_copied_428 (lv_at hl 0 rfl) ?_
                have pu_1166 : kF S_100 6 T = 4 := (cx_109Q.2.2.2.1 T (by omega)).1.trans hp5
                have pu_1168 : kF S_100 8 T = nI V := (cx_109Q.2.2.2.1 T (by omega)).2.trans hp6
                have pu_116r := bnd_at br_1151 pu_1166 pu_1168 (by have := cx_109h.1.1.1; omega) (by have := cx_109h.1.1.1; omega) (by omega) (by omega) (by omega)
                clear br_1151
                have pu_116k : kK S_100 br_115r + 1 ≤ K + cx_109V := by have h9 := cx_109Q.2.2.2.2.1 (2 * V + 1) (by omega); rw [pu_116r]; omega
                have hC0 := hC
                refine c_cv (c_runV (As := [.int (nI cx_109R.2)]) (rest := []) (q0 := (2 * br_115r + 13)) (ci := 0) ⟨hx, hb, hml, hown, htu⟩ (c_addA l G S_100 br_115r br_115l hC r_111 br_115h (nI cx_109R.2) (by rw [pu_116r, lim_b (Nat.le_add_right 35 _), ← pu_116r]; omega) H) (cwV 1 htu hU_X5_200 rfl rfl rfl (by decide +kernel) ⟨show 2 + 1 ≤ (fu + 1) + 4 by omega, show 8 + (2 + 11) + 82 ≤ 42 * (fu + 1) + 140 by omega⟩) hP hK hD hC hpp (c_hd br_115h (cw_row br_115l)) rfl rfl hl.1 rfl (lv_room (Nat.le_of_ble_eq_true rfl)) dX5_copied_430) hS hD hh hpp (fun S_118 H locs hw_119 hP hD hS hC hh hs_120 hpq => ?_)
                clear hpp
                have hpp := hpq
                clear hpq
                try dsimp only at hw_119
                have aw_121 : AW [35] [] S_100 S_118 := (by obtain ⟨_, _, _, h9, -, -⟩ := hw_119; rw [h9]; exact AW.u (by first | (simp; omega) | simp))
                have aw_121t : AW [6, 7, 8, 9, 16, 14, 10, 11, 12, 13, 25, 26, 35] [] S S_118 := aw_103t.tr (aw_121.mono (by decide) (by decide))
                have kk_122 : kK S_118 15 = 0 := (aw_121.2.1 15 (lt35 (by decide)) (by decide)).2.trans kk_104
                have ii_123 : S_118.1 8 = nI tm := (aw_121.1 8 (by decide)).trans ii_105
                have ii_124 : S_118.1 9 = nI ab := (aw_121.1 9 (by decide)).trans ii_106
                have ii_125 : S_118.1 10 = nI lv := (aw_121.1 10 (by decide)).trans ii_107
                have ha_126r : br_91r < 35 + kB S_118 := by have := hs_120.1; have := ha_108r; omega
                have ha_126 : kH S_118 br_91r = r_87 := (hs_120.2 br_91r ha_108r).trans ha_108
                have ha_127r : br_115r < 35 + kB S_118 := by have := hs_120.1; have := br_115l; omega
                have ha_127 : kH S_118 br_115r = r_111 := (hs_120.2 br_115r br_115l).trans br_115h
                have ty_128 := TY.aw cx_109h.1 aw_121 (by decide)
                obtain ⟨ad_129n, ad_129q, ad_129g, ad_129u, ad_1291, ad_1292⟩ := hw_119
                have cp_130 := cx_109h.push ad_129u pu_116r (by omega) pu_116k
                have cp_1306 : kF S_118 6 T = 4 := by rw [(aw_121.2.1 6 (lt35 (by decide)) (by decide)).1]; exact pu_1166
                have cp_1308 : kF S_118 8 T = nI V := by rw [(aw_121.2.1 8 (lt35 (by decide)) (by decide)).1]; exact pu_1168
                have cp_130k : kK S_118 (35 + (2 * V + 1)) ≤ (i + 1) + 1 * (cx_109V - (V + 1)) := by have h9 := cx_109Q.2.2.2.2.1 (2 * V + 1) (by omega); rw [← pu_116r, ad_129u, uR_K, pu_116r]; omega
                have cp_130L : Lx za cx_109R.1 := Lx.tr hp13 cx_109L
                obtain ⟨cp_1301, cp_1302, -, cp_1304, -⟩ := lx_at cp_130L (show T < nT za by omega)
                have cp_1301o : one cx_109R.1 T = V := cp_1304.trans hsT.2
                have cp_130K : KT S_118 (bind cx_109R.1 T 1 cx_109R.2) := by
                  refine kt_bind cx_109k cp_1301 (cp_1302.trans hsT.1) (by decide) cx_109x (n := ad_129n) (q := ad_129q) (g := ad_129g) ?_ ?_ ?_
                  · rw [cp_1301o, ← pu_116r]; exact ad_129u
                  · rw [cp_1301o, ← pu_116r]; exact ad_1291
                  · rw [cp_1301o, ← pu_116r]; exact ad_1292
                have cp_130M : KM S_118 (bind cx_109R.1 T 1 cx_109R.2) tm := cx_109m.aw aw_121 (by decide) (fun _ => rfl) (Nat.le_refl _)
                have cp_130Q : KQ S_118 (bind cx_109R.1 T 1 cx_109R.2) := cx_109q.aw aw_121 (by decide) rfl rfl
                have cp_130S := sg_aw cx_109s aw_121 (by decide)
                have cp_130B : Lx za (bind cx_109R.1 T 1 cx_109R.2) := Lx.tr hp13 (Lx.tr cx_109L (x_bind _ _ _ _ (by decide)))
                have cp_130R : cpR (fun s x => cp fu s x 1 ab lv) T 1 za (row za 1 t9) = cpR (fun s x => cp fu s x 1 ab lv) T 1 (bind cx_109R.1 T 1 cx_109R.2) ((row za 1 t9).drop (i + 1)) := by rw [hp14, cpR_step hi1 hp12, cx_109e, if_pos cx_109z]
                refine lv_iinc (v := nI (i + 1)) (lv' := [(10, .int (nI (i + 1))), (11, .int (nI cx_109R.2)), (0, .ref (ga G 4)), (1, .int (nI t9)), (2, .int 1), (3, .int (nI dp)), (5, .int (nI (2 * (one z t9) + 1))), (6, .int (nI T)), (7, .int 1), (8, .ref r_87), (9, .int (nI ah))]) hx hb dX5_copied_433 hl (k := 10) rfl (nI_1 i) (by decide) rfl (fun ls hl => ?_)
                refine lv_goto (tgt := 385) hx hb dX5_copied_436 (by decide) ?_
                exact ih9 _ _ _ _ _ ⟨S_118, cx_109T, cx_109V, cx_109X, (bind cx_109R.1 T 1 cx_109R.2), i + 1, ls, hC, hh, hpp, aw_121t, by omega, cp_130, by omega, by omega, cp_130k, cp_1306, cp_1308, ha_126, ha_126r, cp_130K, cp_130M, cp_130Q, cx_109z, cp_130B, cp_130R, cp_130S, rfl, rfl, hP, hD, hS, lv_sub hl [2, 3, 4, 5, 6, 7, 8, 9, 10, 0] rfl, rfl⟩
              · skip
                have cx_109zz : sto cx_109R.1 ≠ 0 := by omega
                have cx_109v := cx_109b cx_109zz
                have cx_109nn : ¬ 0 ≤ r_99 := Int32.not_le.mpr (by rw [cx_109v]; exact sc_neg cx_109zz)
                clear cx_109g cx_109b cx_109c cx_109C
                refine lv_istore (lv' := [(11, .int r_99), (0, .ref (ga G 4)), (1, .int (nI t9)), (2, .int 1), (3, .int (nI dp)), (5, .int (nI (2 * (one z t9) + 1))), (6, .int (nI T)), (7, .int 1), (8, .ref r_87), (9, .int (nI ah)), (10, .int (nI i))]) hx hb dX5_copied_407 hl (by decide) rfl (fun ls hl => ?_)
                refine lv_iload hx hb dX5_copied_409 (lv_at hl 0 rfl) ?_
                refine lv_if_ge (tgt := 417) hx hb dX5_copied_411 (by decide) (fun c_131 => absurd c_131 cx_109nn) (fun c_131 => ?_)
                refine lv_iload hx hb dX5_copied_414 (lv_at hl 0 rfl) ?_
                have hcb : cpR (fun s x => cp fu s x 1 ab lv) T 1 za (row za 1 t9) = cx_109R.1 := by rw [hp14, cpR_step hi1 hp12, cx_109e, if_neg cx_109zz, cpR_stop cx_109zz]
                exact c_iret (v := r_99) hx hb hr hK hP hD hS hC hh hpp ⟨aw_103t, ⟨⟨cx_109T, cx_109V, cx_109X, cx_109Y, cx_109h, by omega, by omega, fun h => absurd (Int32.not_le.mp cx_109nn) h⟩, XE.stp cx_109k cx_109m cx_109q cx_109s cx_109zz cx_109v (x := T) (by rw [er1, hcb])⟩⟩ dX5_copied_416 hlocks
        · skip
          obtain ⟨md3, md4, md5⟩ := md2 hme
          obtain rfl : r_18 = nI tm := hw_20.trans md3
          refine lv_aload_n hx hb dX5_copied_243 rfl (lv_at hl 2 rfl) ?_
          refine va_get (D := gD G) (ci := 5) (v := .int (nI tm)) (C := RX5) (T := TX5) (N := 15) hx hb htu cu_in5 hown hK hP 4 cw_4 rfl 8 (by decide) (htu _ C_306) (fun _ h9 => h9) (m_v h8) dX5_copied_244 ?_
          refine lv_icmp_ne (tgt := 260) hx hb dX5_copied_247 (by decide) (fun c_132 => absurd rfl c_132) (fun c_132 => ?_)
          refine lv_aload_n hx hb dX5_copied_250 rfl (lv_at hl 2 rfl) ?_
          refine va_get (D := gD G) (ci := 5) (v := .ref (kH S 25)) (C := RX5) (T := TX5) (N := 15) hx hb htu cu_in5 hown hK hP 4 cw_4 rfl 6 (by decide) (htu _ C_55) (fun _ h9 => h9) rfl dX5_copied_251 ?_
          refine lv_iload hx hb dX5_copied_254 (lv_at hl 0 rfl) ?_
          have hC0 := hC
          refine c_ci (c_runV (As := [.int (nI (2 * (one z t9) + 1))]) (rest := []) (q0 := (2 * 25 + 13)) (ci := 0) ⟨hx, hb, hml, hown, htu⟩ (c_getA l G S 25 (lt35 (by decide)) hC (kH S 25) rfl (nI (2 * (one z t9) + 1)) H) (cwV 1 htu hU_X5_124 rfl rfl rfl (by decide +kernel) ⟨show 0 + 1 ≤ (fu + 1) + 4 by omega, show 8 + (2 + 11) + 0 ≤ 42 * (fu + 1) + 140 by omega⟩) hP hK hD hC hpp (c_hd rfl (cw_row (lt35 (by decide)))) rfl rfl hl.1 rfl (lv_room (Nat.le_of_ble_eq_true rfl)) dX5_copied_256) hS hD hh hpp (fun r_133 S_134 H locs hw_135 hP hD hS hC hh hs_136 hpq => ?_)
          clear hpp
          have hpp := hpq
          clear hpq
          obtain ⟨hu9, hw_135⟩ := hw_135
          have hu9 := hu9.symm
          subst hu9
          obtain rfl : r_133 = nI (memo z (2 * one z t9 + 1) - 1) := hw_135.trans md4
          exact c_iret (v := nI (memo z (2 * one z t9 + 1) - 1)) hx hb hr hK hP hD hS hC hh hpp ⟨AW.rf, ⟨⟨T, V, X, Y, cr0, by omega, by omega, fun _ => by omega⟩, XE.good hz hm hkq (fun _ _ => ⟨rfl, rfl⟩) h0 rfl (by omega) (by rw [cp_me h0 hgt hs3 (by rw [hmk]; exact hme), hmk])⟩⟩ dX5_copied_259 hlocks
      · skip
        have nc_12 : ks z t9 = 3 := (nI_eq (a := ks z t9) (b := 3) (by omega) (by omega)).mp c_12
        refine lv_aload_n hx hb dX5_copied_119 rfl (lv_at hl 1 rfl) ?_
        refine va_get (D := gD G) (ci := 5) (v := .ref (ga G 2)) (C := RX5) (T := TX5) (N := 15) hx hb htu cu_in5 hown hK hP 4 cw_4 rfl 1 (by decide) (htu _ C_45) (fun _ h9 => h9) rfl dX5_copied_120 ?_
        have hC0 := hC
        refine c_ci (c_runV (As := []) (rest := []) (q0 := 2) (ci := 4) ⟨hx, hb, hml, hown, htu⟩ (y_stagedCount l G S  hC  H) (cwV 0 htu hU_X5_153 rfl rfl rfl (by decide +kernel) ⟨show 0 + 1 ≤ (fu + 1) + 4 by omega, show 8 + (1 + 11) + 0 ≤ 42 * (fu + 1) + 140 by omega⟩) hP hK hD hC hpp cw_2 rfl rfl hl.1 rfl (lv_room (Nat.le_of_ble_eq_true rfl)) dX5_copied_123) hS hD hh hpp (fun r_137 S_138 H locs hw_139 hP hD hS hC hh hs_140 hpq => ?_)
        clear hpp
        have hpp := hpq
        clear hpq
        obtain ⟨-, hu9, hw_139⟩ := hw_139
        have hu9 := hu9.symm
        subst hu9
        obtain rfl : r_137 = nI Y := hw_139.trans (congrArg nI hY.1.2.2.2.2.2.2.2.2.2.1)
        refine lv_istore (lv' := [(5, .int (nI Y)), (4, .int (nI (ks z t9))), (0, .ref (ga G 4)), (1, .int (nI t9)), (2, .int 1), (3, .int (nI dp))]) hx hb dX5_copied_126 hl (by decide) rfl (fun ls hl => ?_)
        refine lv_aload_n hx hb dX5_copied_128 rfl (lv_at hl 2 rfl) ?_
        refine va_get (D := gD G) (ci := 5) (v := .ref (ga G 2)) (C := RX5) (T := TX5) (N := 15) hx hb htu cu_in5 hown hK hP 4 cw_4 rfl 1 (by decide) (htu _ C_45) (fun _ h9 => h9) rfl dX5_copied_129 ?_
        refine lv_iload_n hx hb dX5_copied_132 rfl (lv_at hl 3 rfl) ?_
        have hC0 := hC
        refine c_ci (c_runV (As := [.int (nI t9)]) (rest := []) (q0 := 2) (ci := 4) ⟨hx, hb, hml, hown, htu⟩ (x_fieldCount l G S (nI t9) hC  H) (cwV 1 htu hU_X5_184 rfl rfl rfl (by decide +kernel) ⟨show 1 + 1 ≤ (fu + 1) + 4 by omega, show 8 + (2 + 11) + 21 ≤ 42 * (fu + 1) + 140 by omega⟩) hP hK hD hC hpp cw_2 rfl rfl hl.1 rfl (lv_room (Nat.le_of_ble_eq_true rfl)) dX5_copied_133) hS hD hh hpp (fun r_141 S_142 H locs hw_143 hP hD hS hC hh hs_144 hpq => ?_)
        clear hpp
        have hpp := hpq
        clear hpq
        obtain ⟨-, hu9, hw_143⟩ := hw_143
        have hu9 := hu9.symm
        subst hu9
        have hs2 : srt z t9 = 2 := hz.k2 ht nc_12
        obtain ⟨hc1, hc2, hc3⟩ := hz.cnt ht hs2
        obtain rfl : r_141 = nI (parts z t9).length := (hw_143 ((hz.is ht (k := 3) (by decide) (by decide)).mpr (by rw [hs2]))).trans hc1
        clear hw_143
        refine lv_istore (lv' := [(6, .int (nI ((parts z t9).length))), (5, .int (nI Y)), (4, .int (nI (ks z t9))), (0, .ref (ga G 4)), (1, .int (nI t9)), (2, .int 1), (3, .int (nI dp))]) hx hb dX5_copied_136 hl (by decide) rfl (fun ls hl => ?_)
        refine lv_iconst (v := 0) hx hb dX5_copied_138 (by decide) ?_
        refine lv_istore (lv' := [(7, .int 0), (6, .int (nI ((parts z t9).length))), (5, .int (nI Y)), (4, .int (nI (ks z t9))), (0, .ref (ga G 4)), (1, .int (nI t9)), (2, .int 1), (3, .int (nI dp))]) hx hb dX5_copied_139 hl (by decide) rfl (fun ls hl => ?_)
        refine w_loop (fun j H locs k sl g => ∃ (S1 : cS) (T1 : Nat) (V1 : Nat) (X1 : Nat) (zi : aS) (acc : List Nat) (i : Nat) (ls : Array Slot), CL S1 ∧ HS S S1 ∧ PT S ≤ PT S1 ∧ AW [6, 7, 8, 9, 16, 14, 10, 11, 12, 13, 25, 26, 35] [] S S1 ∧ i + j = (parts z t9).length ∧ CR S S1 T V K 1 T1 V1 X1 (Y + i) Z ∧ KT S1 zi ∧ KM S1 zi tm ∧ KQ S1 zi ∧ sto zi = 0 ∧ Lx z zi ∧ Cl (fun s x => cp fu s x 1 ab lv) z (parts z t9) zi acc i ∧ (∀ j, j < Y → kF S1 12 j = kF S 12 j ∧ kF S1 13 j = kF S 13 j) ∧ (∀ q, q < i → kF S1 12 (Y + q) = nI ((labs z t9).getD q 0) ∧ kF S1 13 (Y + q) = nI (acc.getD q 0) ∧ acc.getD q 0 < nT zi) ∧ k = PT S1 - PT S ∧ sl = 12 * (PT S1 - PT S) ∧ cP G S1 H ∧ cD (cA G S s.heap.size) G S1 ∧ va_S (cA G S s.heap.size) s.heap H locs ∧ lv_has ls 12 [(0, .ref (ga G 4)), (1, .int (nI t9)), (2, .int 1), (3, .int (nI dp)), (5, .int (nI Y)), (6, .int (nI ((parts z t9).length))), (7, .int (nI i))] ∧ g = F0 m 141 ls []) ?_ ?_ ((parts z t9).length) _ _ _ _ _ ⟨S, T, V, X, z, [], 0, ls, hC, hh, hpp, AW.rf, by omega, cr0, hz, hm, hkq, h0, Lx.rf, Cl.start, (fun _ _ => ⟨rfl, rfl⟩), (fun q hq => absurd hq (Nat.not_lt_zero _)), rfl, rfl, hP, hD, hS, lv_sub hl [4, 5, 6, 7, 2, 1, 0] rfl, rfl⟩
        · intro H locs k sl g hI
          clear hpp
          obtain ⟨S1, T1, V1, X1, zi, acc, i, ls, hC, hh, hpp, hAW, hp0, hp1, hp2, hp3, hp4, hp5, hp6, hp7, hp8, hp9, rfl, rfl, hP, hD, hS, hl, rfl⟩ := hI
          have x15 : kK S1 15 = 0 := (hAW.2.1 15 (lt35 (by decide)) (by decide)).2.trans h15
          have x8 : S1.1 8 = nI tm := (hAW.1 8 (by decide)).trans h8
          have x9 : S1.1 9 = nI ab := (hAW.1 9 (by decide)).trans h9
          have x10 : S1.1 10 = nI lv := (hAW.1 10 (by decide)).trans h10
          obtain ⟨yT, yV, yB, yX⟩ := hp1.1.2.1
          have yt1 := hp1.2.1
          obtain ⟨l1, l2, l3, l4, l5, l6, l7⟩ := lx_at hp6 ht
          have hci := hp7.2.2
          have hziT : nT zi = T1 := hp2.1.1.symm.trans hp1.1.1.1
          refine lv_iload hx hb dX5_copied_141 (lv_at hl 6 rfl) ?_
          refine lv_iload hx hb dX5_copied_143 (lv_at hl 5 rfl) ?_
          refine lv_icmp_ge (tgt := 201) hx hb dX5_copied_145 (by decide) (fun c_145 => ?_) (fun c_145 => absurd (nI_le (by omega) (by omega)) c_145)
          refine lv_aload_n hx hb dX5_copied_201 rfl (lv_at hl 0 rfl) ?_
          refine va_get (D := gD G) (ci := 5) (v := .ref (ga G 2)) (C := RX5) (T := TX5) (N := 15) hx hb htu cu_in5 hown hK hP 4 cw_4 rfl 1 (by decide) (htu _ C_45) (fun _ h9 => h9) rfl dX5_copied_202 ?_
          refine lv_iload hx hb dX5_copied_205 (lv_at hl 4 rfl) ?_
          have hC0 := hC
          refine c_ci (c_runV (As := [.int (nI Y)]) (rest := []) (q0 := 2) (ci := 4) ⟨hx, hb, hml, hown, htu⟩ (x_addRecord l G S1 T1 V1 V1 X1 (Y + i) Z Y zi ((labs z t9)) acc hC hp1.1 ((by omega)) ((by omega)) hp2 hp5 ((by omega)) ((by omega)) ((fun q hq => ⟨(hp9 q (by omega)).1, (hp9 q (by omega)).2.1, (hp9 q (by omega)).2.2, (hz.lab ht hs2 (i := q) (by omega)).2.2.2⟩)) H) (cwV 1 htu hU_X5_165 rfl rfl rfl (by decide +kernel) ⟨show 4 + 1 ≤ (fu + 1) + 4 by omega, show 8 + (6 + 11) + 128 ≤ 42 * (fu + 1) + 140 by omega⟩) hP hK hD hC hpp cw_2 rfl rfl hl.1 rfl (lv_room (Nat.le_of_ble_eq_true rfl)) dX5_copied_207) hS hD hh hpp (fun r_146 S_147 H locs hw_148 hP hD hS hC hh hs_149 hpq => ?_)
          clear hpp
          have hpp := hpq
          clear hpq
          try dsimp only at hw_148
          have aw_150 : AW [6, 7, 8, 9, 16, 10, 11, 12, 13] [] S1 S_147 := hw_148.1
          have aw_150t : AW [6, 7, 8, 9, 16, 14, 10, 11, 12, 13, 25, 26, 35] [] S S_147 := hAW.tr (aw_150.mono (by decide) (by decide))
          have kk_151 : kK S_147 15 = 0 := (aw_150.2.1 15 (lt35 (by decide)) (by decide)).2.trans x15
          have ii_152 : S_147.1 8 = nI tm := (aw_150.1 8 (by decide)).trans x8
          have ii_153 : S_147.1 9 = nI ab := (aw_150.1 9 (by decide)).trans x9
          have ii_154 : S_147.1 10 = nI lv := (aw_150.1 10 (by decide)).trans x10
          have hw_1489 := hw_148.2
          clear hw_148
          rcases hw_1489 with ⟨ty_155v, ty_155s, ty_155f⟩ | ⟨ty_155v, ty_155t, ty_155, ty_155o, ⟨ty_155kt, ty_155k2, ty_155k0⟩, ty_155l, ty_15512, ty_15513⟩
          · skip
            subst ty_155v
            exact c_iret (v := (-6)) hx hb hr hK hP hD hS hC hh hpp ⟨aw_150t, ⟨⟨T1, V1, X1, Y + i, (by rw [ty_155s]; exact hp1), by omega, by omega, fun h => absurd (by decide) h⟩, by rw [ty_155s]; exact XE.full hp2 hp3 hp4 hp8 hp5 (by rw [cp_rc h0 hgt hs2, (hp7.done (by omega)).1, (hp7.done (by omega)).2, mkR_f hp5 ty_155f])⟩⟩ dX5_copied_210 hlocks
          · skip
            subst ty_155v
            have n602 : nT zi ≠ 602 := by have := ty_155t; omega
            obtain ⟨km9, kq9⟩ := kx_rec (a := labs z t9) (b := acc) hp3 hp4 aw_150 (by rw [hziT]; exact ty_155l) (ty_155.1.2.2.2.2.1.trans (by rw [hziT])) hp5 n602
            have nt9 : nT (mkR zi (labs z t9) acc).1 = nT zi + 1 := by rw [mkR_e hp5 n602]; rfl
            have er9 : cp (fu + 1) z t9 1 ab lv = mkR zi (labs z t9) acc := by rw [cp_rc h0 hgt hs2, (hp7.done (by omega)).1, (hp7.done (by omega)).2]
            exact c_iret (v := nI T1) hx hb hr hK hP hD hS hC hh hpp ⟨aw_150t, ⟨⟨_, _, _, _, hp1.step ty_155 (Nat.le_succ _) ty_155o (aw_150.bnd (by decide) yB), Nat.le_refl _, Nat.le_add_right _ _, fun _ => rfl⟩, XE.good ty_155kt km9 kq9 (fun j hj => by rw [ty_15512, ty_15513]; exact hp8 j hj) ty_155k0 rfl (by rw [nt9]; omega) (er9.trans (Prod.ext rfl ty_155k2))⟩⟩ dX5_copied_210 hlocks
        · intro j ih9 H locs k sl g hI
          clear hpp
          obtain ⟨S1, T1, V1, X1, zi, acc, i, ls, hC, hh, hpp, hAW, hp0, hp1, hp2, hp3, hp4, hp5, hp6, hp7, hp8, hp9, rfl, rfl, hP, hD, hS, hl, rfl⟩ := hI
          have x15 : kK S1 15 = 0 := (hAW.2.1 15 (lt35 (by decide)) (by decide)).2.trans h15
          have x8 : S1.1 8 = nI tm := (hAW.1 8 (by decide)).trans h8
          have x9 : S1.1 9 = nI ab := (hAW.1 9 (by decide)).trans h9
          have x10 : S1.1 10 = nI lv := (hAW.1 10 (by decide)).trans h10
          obtain ⟨yT, yV, yB, yX⟩ := hp1.1.2.1
          have yt1 := hp1.2.1
          obtain ⟨l1, l2, l3, l4, l5, l6, l7⟩ := lx_at hp6 ht
          have hci := hp7.2.2
          have hziT : nT zi = T1 := hp2.1.1.symm.trans hp1.1.1.1
          refine lv_iload hx hb dX5_copied_141 (lv_at hl 6 rfl) ?_
          refine lv_iload hx hb dX5_copied_143 (lv_at hl 5 rfl) ?_
          refine lv_icmp_ge (tgt := 201) hx hb dX5_copied_145 (by decide) (fun c_156 => absurd c_156 (nI_ge (by omega) (by omega))) (fun c_156 => ?_)
          refine lv_aload_n hx hb dX5_copied_148 rfl (lv_at hl 0 rfl) ?_
          refine lv_aload_n hx hb dX5_copied_149 rfl (lv_at hl 0 rfl) ?_
          refine va_get (D := gD G) (ci := 5) (v := .ref (ga G 2)) (C := RX5) (T := TX5) (N := 15) hx hb htu cu_in5 hown hK hP 4 cw_4 rfl 1 (by decide) (htu _ C_45) (fun _ h9 => h9) rfl dX5_copied_150 ?_
          refine lv_iload_n hx hb dX5_copied_153 rfl (lv_at hl 1 rfl) ?_
          refine lv_iload hx hb dX5_copied_154 (lv_at hl 6 rfl) ?_
          have hC0 := hC
          refine c_ci (c_runV (As := [.int (nI t9), .int (nI i)]) (rest := [.ref (ga G 4)]) (q0 := 2) (ci := 4) ⟨hx, hb, hml, hown, htu⟩ (x_partAt l G S1 (nI t9) (nI i) hC  H) (cwV 2 htu hU_X5_193 rfl rfl rfl (by decide +kernel) ⟨show 1 + 1 ≤ (fu + 1) + 4 by omega, show 8 + (3 + 11) + 21 ≤ 42 * (fu + 1) + 140 by omega⟩) hP hK hD hC hpp cw_2 rfl rfl hl.1 rfl (lv_room (Nat.le_of_ble_eq_true rfl)) dX5_copied_156) hS hD hh hpp (fun r_157 S_158 H locs hw_159 hP hD hS hC hh hs_160 hpq => ?_)
          clear hpp
          have hpp := hpq
          clear hpq
          obtain ⟨-, hu9, hw_159⟩ := hw_159
          have hu9 := hu9.symm
          subst hu9
          have hi : i < (parts z t9).length := by omega
          obtain ⟨p1, p2, p3, p4⟩ := hp2.lab l1 (l2.trans hs2) (i := i) (by rw [l6]; exact hi)
          rw [l6] at p2 p3
          obtain rfl : r_157 = nI ((parts z t9).getD i 0) := hw_159.trans p2
          refine lv_iload_n hx hb dX5_copied_159 rfl (lv_at hl 2 rfl) ?_
          refine lv_iload_n hx hb dX5_copied_160 rfl (lv_at hl 3 rfl) ?_
          refine lv_iconst (v := 1) hx hb dX5_copied_161 (by decide) ?_
          refine lv_iadd hx hb dX5_copied_162 ?_
          refine m_top (y := nI (dp + 1)) (nI_1 dp) ?_
          have hC0 := hC
          refine c_ci (c_runV (As := [.int (nI ((parts z t9).getD i 0)), .int 1, .int (nI (dp + 1))]) (rest := []) (q0 := 4) (ci := 5) ⟨hx, hb, hml, hown, htu⟩ (ih l G S1 T1 V1 X1 (Y + i) Z K 1 (dp + 1) 1 zi ((parts z t9).getD i 0) ab lv tm hC hp1.1 hp1.2.2.2.2.2 hKK x15 ((Or.inr ⟨by decide, rfl⟩)) ((by decide)) ((by omega)) ((by omega)) x8 x9 x10 htm hlv hab hp2 hp3 hp4 hp5 p3 H) (cwV 3 htu hU_X5_131 rfl rfl rfl (by decide +kernel) ⟨show (fu + 4) + 1 ≤ (fu + 1) + 4 by omega, show 8 + (12 + 11) + (42 * fu + 140) ≤ 42 * (fu + 1) + 140 by omega⟩) hP hK hD hC hpp cw_4 rfl rfl hl.1 rfl (lv_room (Nat.le_of_ble_eq_true rfl)) dX5_copied_163) hS hD hh hpp (fun r_161 S_162 H locs hw_163 hP hD hS hC hh hs_164 hpq => ?_)
          clear hpp
          have hpp := hpq
          clear hpq
          try dsimp only at hw_163
          have aw_165 : AW [6, 7, 8, 9, 16, 14, 10, 11, 12, 13, 25, 26, 35] [] S1 S_162 := hw_163.1
          have aw_165t : AW [6, 7, 8, 9, 16, 14, 10, 11, 12, 13, 25, 26, 35] [] S S_162 := hAW.tr (aw_165.mono (by decide) (by decide))
          have kk_166 : kK S_162 15 = 0 := (aw_165.2.1 15 (lt35 (by decide)) (by decide)).2.trans x15
          have ii_167 : S_162.1 8 = nI tm := (aw_165.1 8 (by decide)).trans x8
          have ii_168 : S_162.1 9 = nI ab := (aw_165.1 9 (by decide)).trans x9
          have ii_169 : S_162.1 10 = nI lv := (aw_165.1 10 (by decide)).trans x10
          obtain ⟨cx_170C, cx_170E⟩ := hw_163.2
          clear hw_163
          obtain ⟨cx_170T, cx_170V, cx_170X, cx_170Y, cx_170Q, cx_170a, cx_170bb, cx_170c⟩ := id cx_170C
          have cx_170h := hp1.tr cx_170Q
          obtain ⟨-, cx_170t1, cx_170t2, -⟩ := id cx_170Q
          obtain ⟨cx_170u1, cx_170u2, cx_170u3, cx_170u4⟩ := cx_170Q.1.2.1
          obtain ⟨cx_170R, cx_170e⟩ : ∃ R, cp fu zi ((parts z t9).getD i 0) 1 ab lv = R := ⟨_, rfl⟩
          have cx_170L : Lx zi cx_170R.1 := by rw [← cx_170e]; exact x_cp fu zi ((parts z t9).getD i 0) 1 ab lv
          have cx_170zl : Lx z cx_170R.1 := Lx.tr hp6 cx_170L
          rw [cx_170e] at cx_170E
          obtain ⟨cx_170k, cx_170m, cx_170q, cx_170s0, cx_170g, cx_170b⟩ := cx_170E
          have cx_170s := sg_tr (S := S) (Y := Y) (Y1 := (Y + i)) hp8 cx_170s0 (by omega)
          have cx_170n6 := cx_170k.1.2.2.2.2.2.2.2.1
          rcases Nat.eq_zero_or_pos (sto cx_170R.1) with cx_170z | cx_170z
          · skip
            obtain ⟨cx_170v, cx_170x⟩ := cx_170g cx_170z
            subst cx_170v
            have cx_1700 : 0 ≤ nI cx_170R.2 := Int32.not_lt.mp (nI_n0 (by omega))
            have cx_170ye : cx_170Y = Y + i := cx_170c (Int32.not_lt.mpr cx_1700)
            rw [cx_170ye] at cx_170h
            clear cx_170g cx_170b cx_170c cx_170C
            refine lv_istore (lv' := [(8, .int (nI cx_170R.2)), (0, .ref (ga G 4)), (1, .int (nI t9)), (2, .int 1), (3, .int (nI dp)), (5, .int (nI Y)), (6, .int (nI ((parts z t9).length))), (7, .int (nI i))]) hx hb dX5_copied_166 hl (by decide) rfl (fun ls hl => ?_)
            refine lv_iload hx hb dX5_copied_168 (lv_at hl 0 rfl) ?_
            refine lv_if_ge (tgt := 176) hx hb dX5_copied_170 (by decide) (fun c_171 => ?_) (fun c_171 => absurd (Int32.not_lt.mp (nI_n0 (by omega))) c_171)
            refine lv_aload_n hx hb dX5_copied_176 rfl (lv_at hl 1 rfl) ?_
            refine va_get (D := gD G) (ci := 5) (v := .ref (ga G 2)) (C := RX5) (T := TX5) (N := 15) hx hb htu cu_in5 hown hK hP 4 cw_4 rfl 1 (by decide) (htu _ C_45) (fun _ h9 => h9) rfl dX5_copied_177 ?_
            refine lv_aload_n hx hb dX5_copied_180 rfl (lv_at hl 1 rfl) ?_
            refine va_get (D := gD G) (ci := 5) (v := .ref (ga G 2)) (C := RX5) (T := TX5) (N := 15) hx hb htu cu_in5 hown hK hP 4 cw_4 rfl 1 (by decide) (htu _ C_45) (fun _ h9 => h9) rfl dX5_copied_181 ?_
            refine lv_iload_n hx hb dX5_copied_184 rfl (lv_at hl 2 rfl) ?_
            refine lv_iload hx hb dX5_copied_185 (lv_at hl 7 rfl) ?_
            have hC0 := hC
            refine c_ci (c_runV (As := [.int (nI t9), .int (nI i)]) (rest := [.ref (ga G 2)]) (q0 := 2) (ci := 4) ⟨hx, hb, hml, hown, htu⟩ (x_labelAt l G S_162 (nI t9) (nI i) hC  H) (cwV 2 htu hU_X5_187 rfl rfl rfl (by decide +kernel) ⟨show 1 + 1 ≤ (fu + 1) + 4 by omega, show 8 + (3 + 11) + 21 ≤ 42 * (fu + 1) + 140 by omega⟩) hP hK hD hC hpp cw_2 rfl rfl hl.1 rfl (lv_room (Nat.le_of_ble_eq_true rfl)) dX5_copied_187) hS hD hh hpp (fun r_172 S_173 H locs hw_174 hP hD hS hC hh hs_175 hpq => ?_)
            clear hpp
            have hpp := hpq
            clear hpq
            obtain ⟨-, hu9, hw_174⟩ := hw_174
            have hu9 := hu9.symm
            subst hu9
            obtain ⟨m1, m2, m3, m4, m5, m6, m7⟩ := lx_at cx_170zl ht
            obtain ⟨s1_, s2_, s3_, s4_⟩ := cx_170k.lab m1 (m2.trans hs2) (i := i) (by rw [m6]; exact hi)
            rw [m7] at s1_
            obtain rfl : r_172 = nI ((labs z t9).getD i 0) := hw_174.trans s1_
            refine lv_iload hx hb dX5_copied_190 (lv_at hl 0 rfl) ?_
            have hC0 := hC
            refine c_cv (c_runV (As := [.int (nI ((labs z t9).getD i 0)), .int (nI cx_170R.2)]) (rest := []) (q0 := 2) (ci := 4) ⟨hx, hb, hml, hown, htu⟩ (x_stage l G S_162 cx_170T cx_170V cx_170V cx_170X (Y + i) Z (nI ((labs z t9).getD i 0)) (nI cx_170R.2) hC cx_170h.1 ((by omega)) H) (cwV 2 htu hU_X5_162 rfl rfl rfl (by decide +kernel) ⟨show 3 + 1 ≤ (fu + 1) + 4 by omega, show 8 + (3 + 11) + 103 ≤ 42 * (fu + 1) + 140 by omega⟩) hP hK hD hC hpp cw_2 rfl rfl hl.1 rfl (lv_room (Nat.le_of_ble_eq_true rfl)) dX5_copied_192) hS hD hh hpp (fun S_177 H locs hw_178 hP hD hS hC hh hs_179 hpq => ?_)
            clear hpp
            have hpp := hpq
            clear hpq
            try dsimp only at hw_178
            have aw_180 : AW [12, 13] [] S_162 S_177 := hw_178.1
            have aw_180t : AW [6, 7, 8, 9, 16, 14, 10, 11, 12, 13, 25, 26, 35] [] S S_177 := aw_165t.tr (aw_180.mono (by decide) (by decide))
            have kk_181 : kK S_177 15 = 0 := (aw_180.2.1 15 (lt35 (by decide)) (by decide)).2.trans kk_166
            have ii_182 : S_177.1 8 = nI tm := (aw_180.1 8 (by decide)).trans ii_167
            have ii_183 : S_177.1 9 = nI ab := (aw_180.1 9 (by decide)).trans ii_168
            have ii_184 : S_177.1 10 = nI lv := (aw_180.1 10 (by decide)).trans ii_169
            obtain ⟨ty_185, ty_1851, ty_1852, ty_1853⟩ := hw_178.2
            have cs_186 := cx_170h.step ty_185 (Nat.le_refl _) (OC.aw aw_180 (by decide)) (aw_180.bnd (by decide) cx_170u3)
            have ty_185k : KT S_177 cx_170R.1 := cx_170k.aw aw_180 (by decide)
            have ty_185m : KM S_177 cx_170R.1 tm := cx_170m.aw aw_180 (by decide) (fun _ => rfl) (Nat.le_refl _)
            have ty_185q : KQ S_177 cx_170R.1 := cx_170q.aw aw_180 (by decide) rfl rfl
            have ty_185s := sg_tr (S := S) (Y := Y) (Y1 := Y + i) cx_170s ty_1853 (by omega)
            have hcs := hp7.step hi hp5
            rw [cx_170e] at hcs
            have ty_185w : ∀ q, q < i + 1 → kF S_177 12 (Y + q) = nI ((labs z t9).getD q 0) ∧ kF S_177 13 (Y + q) = nI ((acc ++ [cx_170R.2]).getD q 0) ∧ (acc ++ [cx_170R.2]).getD q 0 < nT cx_170R.1 := fun q hq => by
              rcases Nat.lt_or_ge q i with hq2 | hq2
              · rw [(ty_1853 (Y + q) (by omega)).1, (ty_1853 (Y + q) (by omega)).2, (cx_170s0 (Y + q) (by omega)).1, (cx_170s0 (Y + q) (by omega)).2, gtL (by omega)]
                exact ⟨(hp9 q hq2).1, (hp9 q hq2).2.1, Nat.lt_of_lt_of_le (hp9 q hq2).2.2 cx_170L.1⟩
              · obtain rfl : q = i := by omega
                rw [gtR hci.symm]
                exact ⟨ty_1851, ty_1852, cx_170x⟩
            refine lv_iinc (v := nI (i + 1)) (lv' := [(7, .int (nI (i + 1))), (8, .int (nI cx_170R.2)), (0, .ref (ga G 4)), (1, .int (nI t9)), (2, .int 1), (3, .int (nI dp)), (5, .int (nI Y)), (6, .int (nI ((parts z t9).length)))]) hx hb dX5_copied_195 hl (k := 7) rfl (nI_1 i) (by decide) rfl (fun ls hl => ?_)
            refine lv_goto (tgt := 141) hx hb dX5_copied_198 (by decide) ?_
            exact ih9 _ _ _ _ _ ⟨S_177, cx_170T, cx_170V, cx_170X, cx_170R.1, (acc ++ [cx_170R.2]), i + 1, ls, hC, hh, hpp, aw_180t, by omega, cs_186, ty_185k, ty_185m, ty_185q, cx_170z, cx_170zl, hcs, ty_185s, ty_185w, rfl, rfl, hP, hD, hS, lv_sub hl [2, 3, 4, 5, 6, 7, 0] rfl, rfl⟩
          · skip
            have cx_170zz : sto cx_170R.1 ≠ 0 := by omega
            have cx_170v := cx_170b cx_170zz
            have cx_170nn : ¬ 0 ≤ r_161 := Int32.not_le.mpr (by rw [cx_170v]; exact sc_neg cx_170zz)
            clear cx_170g cx_170b cx_170c cx_170C
            refine lv_istore (lv' := [(8, .int r_161), (0, .ref (ga G 4)), (1, .int (nI t9)), (2, .int 1), (3, .int (nI dp)), (5, .int (nI Y)), (6, .int (nI ((parts z t9).length))), (7, .int (nI i))]) hx hb dX5_copied_166 hl (by decide) rfl (fun ls hl => ?_)
            refine lv_iload hx hb dX5_copied_168 (lv_at hl 0 rfl) ?_
            refine lv_if_ge (tgt := 176) hx hb dX5_copied_170 (by decide) (fun c_187 => absurd c_187 cx_170nn) (fun c_187 => ?_)
            refine lv_iload hx hb dX5_copied_173 (lv_at hl 0 rfl) ?_
            have hcs := hp7.step hi hp5
            rw [cx_170e] at hcs
            exact c_iret (v := r_161) hx hb hr hK hP hD hS hC hh hpp ⟨aw_165t, ⟨⟨cx_170T, cx_170V, cx_170X, cx_170Y, cx_170h, by omega, by omega, fun h => absurd (Int32.not_le.mp cx_170nn) h⟩, XE.stp cx_170k cx_170m cx_170q cx_170s cx_170zz cx_170v (x := 0) (by rw [cp_rc h0 hgt hs2, hcs.stop cx_170zz, mkR_st cx_170zz])⟩⟩ dX5_copied_175 hlocks
    · skip
      have nc_11 : ks z t9 = 2 := (nI_eq (a := ks z t9) (b := 2) (by omega) (by omega)).mp c_11
      refine lv_aload_n hx hb dX5_copied_42 rfl (lv_at hl 1 rfl) ?_
      refine lv_aload_n hx hb dX5_copied_43 rfl (lv_at hl 1 rfl) ?_
      refine va_get (D := gD G) (ci := 5) (v := .ref (ga G 2)) (C := RX5) (T := TX5) (N := 15) hx hb htu cu_in5 hown hK hP 4 cw_4 rfl 1 (by decide) (htu _ C_45) (fun _ h9 => h9) rfl dX5_copied_44 ?_
      refine lv_iload_n hx hb dX5_copied_47 rfl (lv_at hl 2 rfl) ?_
      have hC0 := hC
      refine c_ci (c_runV (As := [.int (nI t9)]) (rest := [.ref (ga G 4)]) (q0 := 2) (ci := 4) ⟨hx, hb, hml, hown, htu⟩ (y_firstOf l G S (nI t9) hC  H) (cwV 1 htu hU_X5_178 rfl rfl rfl (by decide +kernel) ⟨show 1 + 1 ≤ (fu + 1) + 4 by omega, show 8 + (2 + 11) + 21 ≤ 42 * (fu + 1) + 140 by omega⟩) hP hK hD hC hpp cw_2 rfl rfl hl.1 rfl (lv_room (Nat.le_of_ble_eq_true rfl)) dX5_copied_48) hS hD hh hpp (fun r_188 S_189 H locs hw_190 hP hD hS hC hh hs_191 hpq => ?_)
      clear hpp
      have hpp := hpq
      clear hpq
      obtain ⟨-, hu9, hw_190⟩ := hw_190
      have hu9 := hu9.symm
      subst hu9
      have hs1 : srt z t9 = 1 := hz.k1 ht nc_11
      obtain ⟨g1, g2, g3, g4⟩ := hz.f1 ht hs1
      obtain rfl : r_188 = nI (one z t9) := hw_190.trans g1
      refine lv_iload_n hx hb dX5_copied_51 rfl (lv_at hl 3 rfl) ?_
      have hC0 := hC
      refine c_ci (c_runS (As := [.int 1]) (rest := [.int (nI (one z t9)), .ref (ga G 4)]) ⟨hx, hb, hml, hown, htu⟩ (g_otherWay l G S 1 hC  H) (va_cwS 1 htu hU_X5_221 rfl rfl rfl (by decide +kernel) ⟨show 0 + 1 ≤ (fu + 1) + 4 by omega, show 8 + (1 + 11) + 0 ≤ 42 * (fu + 1) + 140 by omega⟩) hP hK hD hC hpp rfl hl.1 rfl (lv_room (Nat.le_of_ble_eq_true rfl)) dX5_copied_52) hS hD hh hpp (fun r_192 S_193 H locs hw_194 hP hD hS hC hh hs_195 hpq => ?_)
      clear hpp
      have hpp := hpq
      clear hpq
      obtain ⟨-, hu9, hw_194⟩ := hw_194
      have hu9 := hu9.symm
      subst hu9
      obtain rfl : r_192 = 0 := hw_194.trans (by decide)
      refine lv_iload_n hx hb dX5_copied_55 rfl (lv_at hl 4 rfl) ?_
      refine lv_iconst (v := 1) hx hb dX5_copied_56 (by decide) ?_
      refine lv_iadd hx hb dX5_copied_57 ?_
      refine m_top (y := nI (dp + 1)) (nI_1 dp) ?_
      have hC0 := hC
      refine c_ci (c_runV (As := [.int (nI (one z t9)), .int 0, .int (nI (dp + 1))]) (rest := []) (q0 := 4) (ci := 5) ⟨hx, hb, hml, hown, htu⟩ (ih l G S T V X Y Z K 1 (dp + 1) 0 z (one z t9) ab lv tm hC cr0.1 cr0.2.2.2.2.2 hKK h15 ((Or.inr ⟨by decide, rfl⟩)) ((by decide)) ((by omega)) ((by omega)) h8 h9 h10 htm hlv hab hz hm hkq h0 g3 H) (cwV 3 htu hU_X5_131 rfl rfl rfl (by decide +kernel) ⟨show (fu + 4) + 1 ≤ (fu + 1) + 4 by omega, show 8 + (12 + 11) + (42 * fu + 140) ≤ 42 * (fu + 1) + 140 by omega⟩) hP hK hD hC hpp cw_4 rfl rfl hl.1 rfl (lv_room (Nat.le_of_ble_eq_true rfl)) dX5_copied_58) hS hD hh hpp (fun r_196 S_197 H locs hw_198 hP hD hS hC hh hs_199 hpq => ?_)
      clear hpp
      have hpp := hpq
      clear hpq
      try dsimp only at hw_198
      have aw_200 : AW [6, 7, 8, 9, 16, 14, 10, 11, 12, 13, 25, 26, 35] [] S S_197 := hw_198.1
      have aw_200t : AW [6, 7, 8, 9, 16, 14, 10, 11, 12, 13, 25, 26, 35] [] S S_197 := AW.rf.tr (aw_200.mono (by decide) (by decide))
      have kk_201 : kK S_197 15 = 0 := (aw_200.2.1 15 (lt35 (by decide)) (by decide)).2.trans h15
      have ii_202 : S_197.1 8 = nI tm := (aw_200.1 8 (by decide)).trans h8
      have ii_203 : S_197.1 9 = nI ab := (aw_200.1 9 (by decide)).trans h9
      have ii_204 : S_197.1 10 = nI lv := (aw_200.1 10 (by decide)).trans h10
      obtain ⟨cx_205C, cx_205E⟩ := hw_198.2
      clear hw_198
      obtain ⟨cx_205T, cx_205V, cx_205X, cx_205Y, cx_205Q, cx_205a, cx_205bb, cx_205c⟩ := id cx_205C
      have cx_205h := cr0.tr cx_205Q
      obtain ⟨-, cx_205t1, cx_205t2, -⟩ := id cx_205Q
      obtain ⟨cx_205u1, cx_205u2, cx_205u3, cx_205u4⟩ := cx_205Q.1.2.1
      obtain ⟨cx_205R, cx_205e⟩ : ∃ R, cp fu z (one z t9) 0 ab lv = R := ⟨_, rfl⟩
      have cx_205L : Lx z cx_205R.1 := by rw [← cx_205e]; exact x_cp fu z (one z t9) 0 ab lv
      have cx_205zl : Lx z cx_205R.1 := Lx.tr Lx.rf cx_205L
      rw [cx_205e] at cx_205E
      obtain ⟨cx_205k, cx_205m, cx_205q, cx_205s0, cx_205g, cx_205b⟩ := cx_205E
      have cx_205s := sg_tr (S := S) (Y := Y) (Y1 := Y) (fun _ _ => ⟨rfl, rfl⟩) cx_205s0 (by omega)
      have cx_205n6 := cx_205k.1.2.2.2.2.2.2.2.1
      rcases Nat.eq_zero_or_pos (sto cx_205R.1) with cx_205z | cx_205z
      · skip
        obtain ⟨cx_205v, cx_205x⟩ := cx_205g cx_205z
        subst cx_205v
        have cx_2050 : 0 ≤ nI cx_205R.2 := Int32.not_lt.mp (nI_n0 (by omega))
        have cx_205ye : cx_205Y = Y := cx_205c (Int32.not_lt.mpr cx_2050)
        rw [cx_205ye] at cx_205h
        clear cx_205g cx_205b cx_205c cx_205C
        refine lv_istore (lv' := [(5, .int (nI cx_205R.2)), (4, .int (nI (ks z t9))), (0, .ref (ga G 4)), (1, .int (nI t9)), (2, .int 1), (3, .int (nI dp))]) hx hb dX5_copied_61 hl (by decide) rfl (fun ls hl => ?_)
        refine lv_iload hx hb dX5_copied_63 (lv_at hl 0 rfl) ?_
        refine lv_if_ge (tgt := 73) hx hb dX5_copied_65 (by decide) (fun c_206 => ?_) (fun c_206 => absurd (Int32.not_lt.mp (nI_n0 (by omega))) c_206)
        refine lv_aload_n hx hb dX5_copied_73 rfl (lv_at hl 2 rfl) ?_
        refine lv_aload_n hx hb dX5_copied_74 rfl (lv_at hl 2 rfl) ?_
        refine va_get (D := gD G) (ci := 5) (v := .ref (ga G 2)) (C := RX5) (T := TX5) (N := 15) hx hb htu cu_in5 hown hK hP 4 cw_4 rfl 1 (by decide) (htu _ C_45) (fun _ h9 => h9) rfl dX5_copied_75 ?_
        refine lv_iload_n hx hb dX5_copied_78 rfl (lv_at hl 3 rfl) ?_
        have hC0 := hC
        refine c_ci (c_runV (As := [.int (nI t9)]) (rest := [.ref (ga G 4)]) (q0 := 2) (ci := 4) ⟨hx, hb, hml, hown, htu⟩ (y_secondOf l G S_197 (nI t9) hC  H) (cwV 1 htu hU_X5_181 rfl rfl rfl (by decide +kernel) ⟨show 1 + 1 ≤ (fu + 1) + 4 by omega, show 8 + (2 + 11) + 21 ≤ 42 * (fu + 1) + 140 by omega⟩) hP hK hD hC hpp cw_2 rfl rfl hl.1 rfl (lv_room (Nat.le_of_ble_eq_true rfl)) dX5_copied_79) hS hD hh hpp (fun r_207 S_208 H locs hw_209 hP hD hS hC hh hs_210 hpq => ?_)
        clear hpp
        have hpp := hpq
        clear hpq
        obtain ⟨-, hu9, hw_209⟩ := hw_209
        have hu9 := hu9.symm
        subst hu9
        obtain ⟨l1, l2, l3, l4, l5, l6, l7⟩ := lx_at cx_205zl ht
        have g5 := (cx_205k.f1 l1 (l2.trans hs1)).2.1
        rw [l5] at g5
        obtain rfl : r_207 = nI (two z t9) := hw_209.trans g5
        refine lv_iload_n hx hb dX5_copied_82 rfl (lv_at hl 4 rfl) ?_
        refine lv_iload_n hx hb dX5_copied_83 rfl (lv_at hl 5 rfl) ?_
        refine lv_iconst (v := 1) hx hb dX5_copied_84 (by decide) ?_
        refine lv_iadd hx hb dX5_copied_85 ?_
        refine m_top (y := nI (dp + 1)) (nI_1 dp) ?_
        have hC0 := hC
        refine c_ci (c_runV (As := [.int (nI (two z t9)), .int 1, .int (nI (dp + 1))]) (rest := []) (q0 := 4) (ci := 5) ⟨hx, hb, hml, hown, htu⟩ (ih l G S_197 cx_205T cx_205V cx_205X Y Z K 1 (dp + 1) 1 cx_205R.1 (two z t9) ab lv tm hC cx_205h.1 cx_205h.2.2.2.2.2 hKK kk_201 ((Or.inr ⟨by decide, rfl⟩)) ((by decide)) ((by omega)) ((by omega)) ii_202 ii_203 ii_204 htm hlv hab cx_205k cx_205m cx_205q cx_205z ((Nat.lt_of_lt_of_le g4 cx_205L.1)) H) (cwV 3 htu hU_X5_131 rfl rfl rfl (by decide +kernel) ⟨show (fu + 4) + 1 ≤ (fu + 1) + 4 by omega, show 8 + (12 + 11) + (42 * fu + 140) ≤ 42 * (fu + 1) + 140 by omega⟩) hP hK hD hC hpp cw_4 rfl rfl hl.1 rfl (lv_room (Nat.le_of_ble_eq_true rfl)) dX5_copied_86) hS hD hh hpp (fun r_211 S_212 H locs hw_213 hP hD hS hC hh hs_214 hpq => ?_)
        clear hpp
        have hpp := hpq
        clear hpq
        try dsimp only at hw_213
        have aw_215 : AW [6, 7, 8, 9, 16, 14, 10, 11, 12, 13, 25, 26, 35] [] S_197 S_212 := hw_213.1
        have aw_215t : AW [6, 7, 8, 9, 16, 14, 10, 11, 12, 13, 25, 26, 35] [] S S_212 := aw_200t.tr (aw_215.mono (by decide) (by decide))
        have kk_216 : kK S_212 15 = 0 := (aw_215.2.1 15 (lt35 (by decide)) (by decide)).2.trans kk_201
        have ii_217 : S_212.1 8 = nI tm := (aw_215.1 8 (by decide)).trans ii_202
        have ii_218 : S_212.1 9 = nI ab := (aw_215.1 9 (by decide)).trans ii_203
        have ii_219 : S_212.1 10 = nI lv := (aw_215.1 10 (by decide)).trans ii_204
        obtain ⟨cx_220C, cx_220E⟩ := hw_213.2
        clear hw_213
        obtain ⟨cx_220T, cx_220V, cx_220X, cx_220Y, cx_220Q, cx_220a, cx_220bb, cx_220c⟩ := id cx_220C
        have cx_220h := cx_205h.tr cx_220Q
        obtain ⟨-, cx_220t1, cx_220t2, -⟩ := id cx_220Q
        obtain ⟨cx_220u1, cx_220u2, cx_220u3, cx_220u4⟩ := cx_220Q.1.2.1
        obtain ⟨cx_220R, cx_220e⟩ : ∃ R, cp fu cx_205R.1 (two z t9) 1 ab lv = R := ⟨_, rfl⟩
        have cx_220L : Lx cx_205R.1 cx_220R.1 := by rw [← cx_220e]; exact x_cp fu cx_205R.1 (two z t9) 1 ab lv
        have cx_220zl : Lx z cx_220R.1 := Lx.tr cx_205zl cx_220L
        rw [cx_220e] at cx_220E
        obtain ⟨cx_220k, cx_220m, cx_220q, cx_220s0, cx_220g, cx_220b⟩ := cx_220E
        have cx_220s := sg_tr (S := S) (Y := Y) (Y1 := Y) cx_205s cx_220s0 (by omega)
        have cx_220n6 := cx_220k.1.2.2.2.2.2.2.2.1
        rcases Nat.eq_zero_or_pos (sto cx_220R.1) with cx_220z | cx_220z
        · skip
          obtain ⟨cx_220v, cx_220x⟩ := cx_220g cx_220z
          subst cx_220v
          have cx_2200 : 0 ≤ nI cx_220R.2 := Int32.not_lt.mp (nI_n0 (by omega))
          have cx_220ye : cx_220Y = Y := cx_220c (Int32.not_lt.mpr cx_2200)
          rw [cx_220ye] at cx_220h
          clear cx_220g cx_220b cx_220c cx_220C
          refine lv_istore (lv' := [(6, .int (nI cx_220R.2)), (5, .int (nI cx_205R.2)), (4, .int (nI (ks z t9))), (0, .ref (ga G 4)), (1, .int (nI t9)), (2, .int 1), (3, .int (nI dp))]) hx hb dX5_copied_89 hl (by decide) rfl (fun ls hl => ?_)
          refine lv_iload hx hb dX5_copied_91 (lv_at hl 0 rfl) ?_
          refine lv_if_ge (tgt := 101) hx hb dX5_copied_93 (by decide) (fun c_221 => ?_) (fun c_221 => absurd (Int32.not_lt.mp (nI_n0 (by omega))) c_221)
          refine lv_aload_n hx hb dX5_copied_101 rfl (lv_at hl 3 rfl) ?_
          refine va_get (D := gD G) (ci := 5) (v := .ref (ga G 2)) (C := RX5) (T := TX5) (N := 15) hx hb htu cu_in5 hown hK hP 4 cw_4 rfl 1 (by decide) (htu _ C_45) (fun _ h9 => h9) rfl dX5_copied_102 ?_
          refine lv_iload hx hb dX5_copied_105 (lv_at hl 1 rfl) ?_
          refine lv_iload hx hb dX5_copied_107 (lv_at hl 0 rfl) ?_
          have hC0 := hC
          refine c_ci (c_runV (As := [.int (nI cx_205R.2), .int (nI cx_220R.2)]) (rest := []) (q0 := 2) (ci := 4) ⟨hx, hb, hml, hown, htu⟩ (x_addFunction l G S_212 cx_220T cx_220V cx_220V cx_220X Y Z cx_205R.2 cx_220R.2 cx_220R.1 hC cx_220h.1 cx_220k cx_220z ((Nat.lt_of_lt_of_le cx_205x cx_220L.1)) cx_220x H) (cwV 2 htu hU_X5_147 rfl rfl rfl (by decide +kernel) ⟨show 4 + 1 ≤ (fu + 1) + 4 by omega, show 8 + (3 + 11) + 128 ≤ 42 * (fu + 1) + 140 by omega⟩) hP hK hD hC hpp cw_2 rfl rfl hl.1 rfl (lv_room (Nat.le_of_ble_eq_true rfl)) dX5_copied_109) hS hD hh hpp (fun r_222 S_223 H locs hw_224 hP hD hS hC hh hs_225 hpq => ?_)
          clear hpp
          have hpp := hpq
          clear hpq
          try dsimp only at hw_224
          have aw_226 : AW [6, 7, 8, 9, 16] [] S_212 S_223 := hw_224.1
          have aw_226t : AW [6, 7, 8, 9, 16, 14, 10, 11, 12, 13, 25, 26, 35] [] S S_223 := aw_215t.tr (aw_226.mono (by decide) (by decide))
          have kk_227 : kK S_223 15 = 0 := (aw_226.2.1 15 (lt35 (by decide)) (by decide)).2.trans kk_216
          have ii_228 : S_223.1 8 = nI tm := (aw_226.1 8 (by decide)).trans ii_217
          have ii_229 : S_223.1 9 = nI ab := (aw_226.1 9 (by decide)).trans ii_218
          have ii_230 : S_223.1 10 = nI lv := (aw_226.1 10 (by decide)).trans ii_219
          have hw_2249 := hw_224.2
          clear hw_224
          rcases hw_2249 with ⟨ty_231v, ty_231s, ty_231f⟩ | ⟨ty_231v, ty_231t, ty_231, ty_231o, ⟨ty_231kt, ty_231k2, ty_231k0⟩, ty_231l⟩
          · skip
            subst ty_231v
            exact c_iret (v := (-6)) hx hb hr hK hP hD hS hC hh hpp ⟨aw_226t, ⟨⟨cx_220T, cx_220V, cx_220X, Y, (by rw [ty_231s]; exact cx_220h), by omega, by omega, fun h => absurd (by decide) h⟩, by rw [ty_231s]; exact XE.full cx_220k cx_220m cx_220q cx_220s cx_220z (by rw [cp_fn h0 hgt hs1, show otw 1 = 0 from rfl, cx_205e, cx_220e, mkA_f cx_220z ty_231f])⟩⟩ dX5_copied_112 hlocks
          · skip
            subst ty_231v
            have hzT : nT cx_220R.1 = cx_220T := cx_220k.1.1.symm.trans cx_220h.1.1.1
            have n602 : nT cx_220R.1 ≠ 602 := by have := ty_231t; omega
            obtain ⟨km9, kq9⟩ := kx_fun ty_231kt cx_220m cx_220q aw_226 (by rw [hzT]; exact ty_231l) (ty_231.1.2.2.2.2.1.trans (by rw [hzT])) cx_220z n602
            have sg9 := sg_aw (S := S) (Y := Y) cx_220s aw_226 (by decide)
            have nt9 : nT (mkA cx_220R.1 cx_205R.2 cx_220R.2).1 = nT cx_220R.1 + 1 := by rw [mkA_e cx_220z n602]; rfl
            have er9 : cp (fu + 1) z t9 1 ab lv = mkA cx_220R.1 cx_205R.2 cx_220R.2 := by rw [cp_fn h0 hgt hs1, show otw 1 = 0 from rfl, cx_205e, cx_220e]
            exact c_iret (v := nI cx_220T) hx hb hr hK hP hD hS hC hh hpp ⟨aw_226t, ⟨⟨_, _, _, _, cx_220h.step ty_231 (Nat.le_succ _) ty_231o (aw_226.bnd (by decide) cx_220h.1.2.1.2.2.1), Nat.le_refl _, Nat.le_add_right _ _, fun _ => rfl⟩, XE.good ty_231kt km9 kq9 sg9 ty_231k0 rfl (by rw [nt9]; omega) (er9.trans (Prod.ext rfl ty_231k2))⟩⟩ dX5_copied_112 hlocks
        · skip
          have cx_220zz : sto cx_220R.1 ≠ 0 := by omega
          have cx_220v := cx_220b cx_220zz
          have cx_220nn : ¬ 0 ≤ r_211 := Int32.not_le.mpr (by rw [cx_220v]; exact sc_neg cx_220zz)
          clear cx_220g cx_220b cx_220c cx_220C
          refine lv_istore (lv' := [(6, .int r_211), (5, .int (nI cx_205R.2)), (4, .int (nI (ks z t9))), (0, .ref (ga G 4)), (1, .int (nI t9)), (2, .int 1), (3, .int (nI dp))]) hx hb dX5_copied_89 hl (by decide) rfl (fun ls hl => ?_)
          refine lv_iload hx hb dX5_copied_91 (lv_at hl 0 rfl) ?_
          refine lv_if_ge (tgt := 101) hx hb dX5_copied_93 (by decide) (fun c_232 => absurd c_232 cx_220nn) (fun c_232 => ?_)
          refine lv_iload hx hb dX5_copied_96 (lv_at hl 0 rfl) ?_
          refine lv_goto (tgt := 112) hx hb dX5_copied_98 (by decide) ?_
          exact c_iret (v := r_211) hx hb hr hK hP hD hS hC hh hpp ⟨aw_215t, ⟨⟨cx_220T, cx_220V, cx_220X, cx_220Y, cx_220h, by omega, by omega, fun h => absurd (Int32.not_le.mp cx_220nn) h⟩, XE.stp cx_220k cx_220m cx_220q cx_220s cx_220zz cx_220v (x := 0) (by rw [cp_fn h0 hgt hs1, show otw 1 = 0 from rfl, cx_205e, cx_220e, mkA_st cx_220zz])⟩⟩ dX5_copied_112 hlocks
      · skip
        have cx_205zz : sto cx_205R.1 ≠ 0 := by omega
        have cx_205v := cx_205b cx_205zz
        have cx_205nn : ¬ 0 ≤ r_196 := Int32.not_le.mpr (by rw [cx_205v]; exact sc_neg cx_205zz)
        clear cx_205g cx_205b cx_205c cx_205C
        refine lv_istore (lv' := [(5, .int r_196), (4, .int (nI (ks z t9))), (0, .ref (ga G 4)), (1, .int (nI t9)), (2, .int 1), (3, .int (nI dp))]) hx hb dX5_copied_61 hl (by decide) rfl (fun ls hl => ?_)
        refine lv_iload hx hb dX5_copied_63 (lv_at hl 0 rfl) ?_
        refine lv_if_ge (tgt := 73) hx hb dX5_copied_65 (by decide) (fun c_233 => absurd c_233 cx_205nn) (fun c_233 => ?_)
        refine lv_iload hx hb dX5_copied_68 (lv_at hl 0 rfl) ?_
        refine lv_goto (tgt := 89) hx hb dX5_copied_70 (by decide) ?_
        refine lv_istore (lv' := [(6, .int r_196), (5, .int r_196), (4, .int (nI (ks z t9))), (0, .ref (ga G 4)), (1, .int (nI t9)), (2, .int 1), (3, .int (nI dp))]) hx hb dX5_copied_89 hl (by decide) rfl (fun ls hl => ?_)
        refine lv_iload hx hb dX5_copied_91 (lv_at hl 0 rfl) ?_
        refine lv_if_ge (tgt := 101) hx hb dX5_copied_93 (by decide) (fun c_234 => absurd c_234 cx_205nn) (fun c_234 => ?_)
        refine lv_iload hx hb dX5_copied_96 (lv_at hl 0 rfl) ?_
        refine lv_goto (tgt := 112) hx hb dX5_copied_98 (by decide) ?_
        exact c_iret (v := r_196) hx hb hr hK hP hD hS hC hh hpp ⟨aw_200t, ⟨⟨cx_205T, cx_205V, cx_205X, cx_205Y, cx_205h, by omega, by omega, fun h => absurd (Int32.not_le.mp cx_205nn) h⟩, XE.stp cx_205k cx_205m cx_205q cx_205s cx_205zz cx_205v (x := 0) (by rw [cp_fn h0 hgt hs1, show otw 1 = 0 from rfl, cx_205e, cp_stop cx_205zz, mkA_st cx_205zz])⟩⟩ dX5_copied_112 hlocks
  · skip
    have nc_6 : ¬ ab < lev z t9 := fun h9 => c_6 ((nI_ltI (a := ab) (b := lev z t9) (by omega) (by omega)).mpr h9)
    refine lv_iload_n hx hb dX5_copied_24 rfl (lv_at hl 1 rfl) ?_
    exact c_iret (v := nI t9) hx hb hr hK hP hD hS hC hh hpp ⟨AW.rf, ⟨⟨T, V, X, Y, cr0, by omega, by omega, fun _ => by omega⟩, XE.good hz hm hkq (fun _ _ => ⟨rfl, rfl⟩) h0 rfl ht (cp_le h0 (by have := nc_6; omega))⟩⟩ dX5_copied_25 hlocks

