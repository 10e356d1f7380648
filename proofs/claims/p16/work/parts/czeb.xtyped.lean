set_option maxHeartbeats 4000000 in
set_option maxRecDepth 100000 in
/-- typedName -/
theorem x_typedName (l : Launch) (G : cG) (S : cS) (fu : Nat) (T : Nat) (V : Nat) (X : Nat) (Y : Nat) (Z : Nat) (q : Nat) (N : Nat) (dp : Nat) (lv : Nat) (tr : aM) (mk : Nat → Int32) (rk : Nat → Nat) (top : Nat) (gs : Nat → Prop) (z : aS) (n9 : Nat) (tm : Nat) (hC : CL S) (hU : US S T V X Y Z q) (hq : q ≤ 1500) (h15 : kK S 15 = 0) (hT : TJ S N) (hdp : dp + (fu + 1) = 61) (hlv : lv ≤ dp) (hY2 : Y + (6 * (fu + 1) + 372) ≤ 900) (hE : TC S tr mk N) (hO : TO S tr N) (hrk : RKs tr rk N) (hn : n9 < N) (htp : top < N) (h11 : S.1 11 = nI top) (hcv : ∀ j, Cv gs tr top j n9) (hz : KT S z) (hkq : KQ S z) (hm0 : KM0 S tm) (h8 : S.1 8 = nI tm) (htm : tm + 1501 + cntT tr ((fu + 1)) n9 ≤ 2 ^ 29 + stp z) (h0 : sto z = 0) (hzq : stp z = q) (h13 : S.1 13 = -9) (hk2 : kK S 23 = 120 ∧ kK S 24 = 120) (hgc : GC gs z S) (hkd : tr 0 n9 = 2) (Hs : Heap) : Met l yX5_typedName (wC yX5_typedName cX5_typedName 6 (some .int)) (cRm S (2 * fu + 141) (60 * fu + 6530)) (cPc G S Hs [.ref (ga G 4), .int (nI n9), .int (nI lv)]) (cQi G S Hs (fun v u => AW [6, 7, 8, 9, 16, 14, 10, 11, 12, 13, 17, 18, 23, 24, 25, 26, 35] [8, 9, 10, 12, 13] S u ∧ (TX u T V Y q (6 * (fu + 1) + 372) v ∧ YF S u Y tm (cntT tr (fu + 1) n9) gs n9 z (ty tr top (fu + 1) z n9 lv) v))) (CC - PT S) (12 * (CC - PT S)) (cA G S Hs.size) := by
  refine Met.ofW (cc := cX5_typedName) (maxL := 6) (ret := (some .int)) (by decide) rfl ?_
  intro p e s m args below meth c s₁ B hml hv
  obtain ⟨rfl, hsz, hP, hK, hD0, -⟩ := hv
  have hx := B.exec
  have hb := B.bytes
  have hr := B.returns
  have htu : ∀ w ∈ CU, w.before _ s = true := fun w h => atoms_spec (ws := (wC yX5_typedName cX5_typedName 6 (some .int))) B.pre w (List.mem_cons_of_mem _ h)
  have hown : s.vm.findClass RX5 = some m.cls := findClass_of_methodNamed B.named
  have hlocks := B.notSynchronized
  subst hsz
  have hD : cD (cA G S s.heap.size) G S := cD_self hD0
  have hl := lv_entry ([.ref (ga G 4), .int (nI n9), .int (nI lv)]) (n := 6) (Nat.le_of_ble_eq_true rfl)
  rw [lg_entry_eq]
  generalize (lg_sl ([.ref (ga G 4), .int (nI n9), .int (nI lv)]) ++ List.replicate (6 - (lg_sl ([.ref (ga G 4), .int (nI n9), .int (nI lv)])).length) Slot.unset).toArray = ls at hl ⊢
  have hl : lv_has ls 6 [(0, .ref (ga G 4)), (1, .int (nI n9)), (2, .int (nI lv))] := hl
  obtain ⟨H, hHe⟩ : ∃ H : Heap, H = s.heap := ⟨_, rfl⟩
  rw [← hHe] at hP
  have hS : va_S (cA G S s.heap.size) s.heap H [] := by rw [hHe]; exact va_S.rf
  have hh : HS S S := HS.rf
  have hpp : PT S ≤ PT S := Nat.le_refl _
  have hB9 := hC.1
  refine W.heq hHe ?_
  refine c_ent (S := S) ?_
  obtain ⟨tT, tV, tB, tX⟩ := id hU.1.2.1
  have yc0 : YC S S Y tm (cntT tr (fu + 1) n9) gs z z tm gs := ⟨hz, hkq, hm0, h8, ⟨Nat.le_refl _, by omega, by omega⟩, fun _ _ => ⟨rfl, rfl⟩, hk2, fun _ => ⟨fun _ h => h, hgc⟩⟩
  have yc1 := yc_askn yc0 n9
  have hcp : 1 ≤ cntT tr (fu + 1) n9 := cnt_pos
  refine lv_aload_n hx hb dX5_typedName_0 rfl (lv_at hl 0 rfl) ?_
  refine va_get (D := gD G) (ci := 5) (v := .ref (ga G 1)) (C := RX5) (T := TX5) (N := 15) hx hb htu cu_in5 hown hK hP 4 cw_4 rfl 0 (by decide) (htu _ C_60) (fun _ h9 => h9) rfl dX5_typedName_1 ?_
  refine lv_iload_n hx hb dX5_typedName_4 rfl (lv_at hl 1 rfl) ?_
  refine lv_aload_n hx hb dX5_typedName_5 rfl (lv_at hl 0 rfl) ?_
  refine va_get (D := gD G) (ci := 5) (v := .int (nI top)) (C := RX5) (T := TX5) (N := 15) hx hb htu cu_in5 hown hK hP 4 cw_4 rfl 11 (by decide) (htu _ C_57) (fun _ h9 => h9) (m_v h11) dX5_typedName_6 ?_
  have hC0 := hC
  refine c_ci (c_runV (As := [.int (nI n9), .int (nI top)]) (rest := []) (q0 := 1) (ci := 3) ⟨hx, hb, hml, hown, htu⟩ (tt_binderOf l G S N (nI n9) (nI top) hC hT.1 H) (cwV 2 htu hU_X5_121 rfl rfl rfl (by decide +kernel) ⟨show 3 + 1 ≤ 2 * fu + 141 by omega, show 8 + (6 + 11) + 66 ≤ 60 * fu + 6530 by omega⟩) hP hK hD hC hpp cw_1 rfl rfl hl.1 rfl (lv_room (Nat.le_of_ble_eq_true rfl)) dX5_typedName_9) hS hD hh hpp (fun r_1 S_2 H locs hw_3 hP hD hS hC hh hs_4 hpq => ?_)
  clear hpp
  have hpp := hpq
  clear hpq
  obtain ⟨-, hu9, hw_3⟩ := hw_3
  have hu9 := hu9.symm
  subst hu9
  obtain ⟨tb1, tb2⟩ := tb_eq hE hO hn hkd htp 120 n9 hn
  rcases hbd : binder tr top (tr 1 n9) 120 n9 with _ | u9
  · skip
    obtain rfl : r_1 = -9 := hw_3.trans (by rw [tb1, hbd]; rfl)
    refine lv_istore_n (lv' := [(3, .int ((-9))), (0, .ref (ga G 4)), (1, .int (nI n9)), (2, .int (nI lv))]) hx hb dX5_typedName_12 rfl hl (by decide) rfl (fun ls hl => ?_)
    refine lv_iload_n hx hb dX5_typedName_13 rfl (lv_at hl 0 rfl) ?_
    refine lv_bipush (v := (-9)) hx hb dX5_typedName_14 (by decide) ?_
    refine lv_icmp_ne (tgt := 22) hx hb dX5_typedName_16 (by decide) (fun c_5 => absurd (by decide) c_5) (fun c_5 => ?_)
    refine lv_bipush (v := (-7)) hx hb dX5_typedName_19 (by decide) ?_
    exact c_iret (v := (-7)) hx hb hr hK hP hD hS hC hh hpp ⟨AW.rf, ⟨US.txb hU (by omega) (by omega) (by decide), yf_bad (yc_stops yc1 2 n9 (by decide) h0) (by rw [sto_sp9 (s := w1 z 0 5 n9) h0]; decide) SM.rf (by rw [sto_sp9 (s := w1 z 0 5 n9) h0]; rfl) (pl_stops (w := w1 z 0 5 n9) h0 h13) (x := 0) (by rw [ty_2 h0 hkd, tyName_n hbd])⟩⟩ dX5_typedName_21 hlocks
  · skip
    have hu9 : u9 < N := tb2 u9 hbd
    have hN9 := hT.1.1
    have hgu := Cv.bind 120 n9 (hcv 120) hbd
    obtain ⟨gu1, gu2, gu3, gu4, gu5⟩ := hgc u9 hgu
    obtain rfl : r_1 = nI u9 := hw_3.trans (by rw [tb1, hbd]; rfl)
    refine lv_istore_n (lv' := [(3, .int (nI u9)), (0, .ref (ga G 4)), (1, .int (nI n9)), (2, .int (nI lv))]) hx hb dX5_typedName_12 rfl hl (by decide) rfl (fun ls hl => ?_)
    refine lv_iload_n hx hb dX5_typedName_13 rfl (lv_at hl 0 rfl) ?_
    refine lv_bipush (v := (-9)) hx hb dX5_typedName_14 (by decide) ?_
    refine lv_icmp_ne (tgt := 22) hx hb dX5_typedName_16 (by decide) (fun c_6 => ?_) (fun c_6 => absurd c_6 (nI_neg (by decide) (by omega)))
    refine lv_aload_n hx hb dX5_typedName_22 rfl (lv_at hl 1 rfl) ?_
    refine va_get (D := gD G) (ci := 5) (v := .ref (kH S 23)) (C := RX5) (T := TX5) (N := 15) hx hb htu cu_in5 hown hK hP 4 cw_4 rfl 4 (by decide) (htu _ C_53) (fun _ h9 => h9) rfl dX5_typedName_23 ?_
    refine lv_iload_n hx hb dX5_typedName_26 rfl (lv_at hl 0 rfl) ?_
    have hC0 := hC
    refine c_ci (c_runV (As := [.int (nI u9)]) (rest := []) (q0 := (2 * 23 + 13)) (ci := 0) ⟨hx, hb, hml, hown, htu⟩ (c_getA l G S 23 (lt35 (by decide)) hC (kH S 23) rfl (nI u9) H) (cwV 1 htu hU_X5_124 rfl rfl rfl (by decide +kernel) ⟨show 0 + 1 ≤ 2 * fu + 141 by omega, show 8 + (2 + 11) + 0 ≤ 60 * fu + 6530 by omega⟩) hP hK hD hC hpp (c_hd rfl (cw_row (lt35 (by decide)))) rfl rfl hl.1 rfl (lv_room (Nat.le_of_ble_eq_true rfl)) dX5_typedName_27) hS hD hh hpp (fun r_7 S_8 H locs hw_9 hP hD hS hC hh hs_10 hpq => ?_)
    clear hpp
    have hpp := hpq
    clear hpq
    obtain ⟨hu9, hw_9⟩ := hw_9
    have hu9 := hu9.symm
    subst hu9
    obtain rfl : r_7 = nI (z.1 8 u9) := hw_9.trans (rget_k (by rw [hk2.1]; omega) (by rw [hk2.1]; decide) gu2)
    refine lv_istore (lv' := [(4, .int (nI (z.1 8 u9))), (3, .int (nI u9)), (0, .ref (ga G 4)), (1, .int (nI n9)), (2, .int (nI lv))]) hx hb dX5_typedName_30 hl (by decide) rfl (fun ls hl => ?_)
    refine lv_aload_n hx hb dX5_typedName_32 rfl (lv_at hl 2 rfl) ?_
    refine va_get (D := gD G) (ci := 5) (v := .ref (kH S 24)) (C := RX5) (T := TX5) (N := 15) hx hb htu cu_in5 hown hK hP 4 cw_4 rfl 5 (by decide) (htu _ C_54) (fun _ h9 => h9) rfl dX5_typedName_33 ?_
    refine lv_iload_n hx hb dX5_typedName_36 rfl (lv_at hl 1 rfl) ?_
    have hC0 := hC
    refine c_ci (c_runV (As := [.int (nI u9)]) (rest := []) (q0 := (2 * 24 + 13)) (ci := 0) ⟨hx, hb, hml, hown, htu⟩ (c_getA l G S 24 (lt35 (by decide)) hC (kH S 24) rfl (nI u9) H) (cwV 1 htu hU_X5_124 rfl rfl rfl (by decide +kernel) ⟨show 0 + 1 ≤ 2 * fu + 141 by omega, show 8 + (2 + 11) + 0 ≤ 60 * fu + 6530 by omega⟩) hP hK hD hC hpp (c_hd rfl (cw_row (lt35 (by decide)))) rfl rfl hl.1 rfl (lv_room (Nat.le_of_ble_eq_true rfl)) dX5_typedName_37) hS hD hh hpp (fun r_11 S_12 H locs hw_13 hP hD hS hC hh hs_14 hpq => ?_)
    clear hpp
    have hpp := hpq
    clear hpq
    obtain ⟨hu9, hw_13⟩ := hw_13
    have hu9 := hu9.symm
    subst hu9
    have hsch : r_11 = (if z.1 9 u9 = 0 then -1 else nI (z.1 9 u9 - 1)) := hw_13.trans (rget_k (by rw [hk2.2]; omega) (by rw [hk2.2]; decide) gu5)
    by_cases h9z : z.1 9 u9 = 0
    · skip
      rw [if_pos h9z] at hsch
      subst hsch
      refine lv_istore (lv' := [(5, .int ((-1))), (4, .int (nI (z.1 8 u9))), (3, .int (nI u9)), (0, .ref (ga G 4)), (1, .int (nI n9)), (2, .int (nI lv))]) hx hb dX5_typedName_40 hl (by decide) rfl (fun ls hl => ?_)
      refine lv_iload hx hb dX5_typedName_42 (lv_at hl 0 rfl) ?_
      refine lv_iconst (v := (-1)) hx hb dX5_typedName_44 (by decide) ?_
      refine lv_icmp_ne (tgt := 51) hx hb dX5_typedName_45 (by decide) (fun c_15 => absurd (by decide) c_15) (fun c_15 => ?_)
      refine lv_iload hx hb dX5_typedName_48 (lv_at hl 1 rfl) ?_
      exact c_iret (v := nI (z.1 8 u9)) hx hb hr hK hP hD hS hC hh hpp ⟨AW.rf, ⟨US.tx hU (by omega) _, yf_good yc1 h0 rfl gu3 (hU.2.1.trans (by rw [← hzq]; rfl)) h13 (by rw [ty_2 h0 hkd, tyName_s hbd h9z])⟩⟩ dX5_typedName_50 hlocks
    · skip
      rw [if_neg h9z] at hsch
      subst hsch
      refine lv_istore (lv' := [(5, .int (nI (z.1 9 u9 - 1))), (4, .int (nI (z.1 8 u9))), (3, .int (nI u9)), (0, .ref (ga G 4)), (1, .int (nI n9)), (2, .int (nI lv))]) hx hb dX5_typedName_40 hl (by decide) rfl (fun ls hl => ?_)
      refine lv_iload hx hb dX5_typedName_42 (lv_at hl 0 rfl) ?_
      refine lv_iconst (v := (-1)) hx hb dX5_typedName_44 (by decide) ?_
      refine lv_icmp_ne (tgt := 51) hx hb dX5_typedName_45 (by decide) (fun c_16 => ?_) (fun c_16 => absurd c_16 (nI_neg (by decide) (by omega)))
      refine lv_aload_n hx hb dX5_typedName_51 rfl (lv_at hl 3 rfl) ?_
      refine lv_iload hx hb dX5_typedName_52 (lv_at hl 0 rfl) ?_
      refine lv_iload_n hx hb dX5_typedName_54 rfl (lv_at hl 5 rfl) ?_
      have hC0 := hC
      refine c_cv (c_runV (As := [.int (nI (z.1 9 u9 - 1)), .int (nI lv)]) (rest := []) (q0 := 4) (ci := 5) ⟨hx, hb, hml, hown, htu⟩ (x_startCopying l G S (nI (z.1 9 u9 - 1)) (nI lv) tm hC h8 ((by omega)) H) (cwV 2 htu hU_X5_127 rfl rfl rfl (by decide +kernel) ⟨show 0 + 1 ≤ 2 * fu + 141 by omega, show 8 + (3 + 11) + 0 ≤ 60 * fu + 6530 by omega⟩) hP hK hD hC hpp cw_4 rfl rfl hl.1 rfl (lv_room (Nat.le_of_ble_eq_true rfl)) dX5_typedName_55) hS hD hh hpp (fun S_18 H locs hw_19 hP hD hS hC hh hs_20 hpq => ?_)
      clear hpp
      have hpp := hpq
      clear hpq
      try dsimp only at hw_19
      have aw_21 : AW [] [8, 9, 10] S S_18 := hw_19.1
      have aw_21t : AW [6, 7, 8, 9, 16, 14, 10, 11, 12, 13, 17, 18, 23, 24, 25, 26, 35] [8, 9, 10, 12, 13] S S_18 := AW.rf.tr (aw_21.mono (by decide) (by decide))
      have kk_22 : kK S_18 15 = 0 := (aw_21.2.1 15 (lt35 (by decide)) (by decide)).2.trans h15
      have kk_23 : kK S_18 23 = 120 := (aw_21.2.1 23 (lt35 (by decide)) (by decide)).2.trans hk2.1
      have kk_24 : kK S_18 24 = 120 := (aw_21.2.1 24 (lt35 (by decide)) (by decide)).2.trans hk2.2
      have ii_25 : S_18.1 11 = nI top := (aw_21.1 11 (by decide)).trans h11
      have tj_26 : TJ S_18 N := TJ.aw hT aw_21 (by decide)
      have ty_27 := TY.aw hU.1 aw_21 (by decide)
      refine lv_aload_n hx hb dX5_typedName_58 rfl (lv_at hl 3 rfl) ?_
      refine lv_iload hx hb dX5_typedName_59 (lv_at hl 1 rfl) ?_
      refine lv_iconst (v := 2) hx hb dX5_typedName_61 (by decide) ?_
      refine lv_iconst (v := 1) hx hb dX5_typedName_62 (by decide) ?_
      have nu_28 : US S_18 T V X Y Z q := US.aw hU aw_21 (by decide) (by decide)
      have nu_28k : KT S_18 (newTime (w1 z 0 5 n9)) := (yc1.1.aw aw_21 (by decide)).time
      have nu_28m : KM S_18 (newTime (w1 z 0 5 n9)) (tm + 1) := (hm0.aw aw_21 (by decide)).ml
      have nu_28q : KQ S_18 (newTime (w1 z 0 5 n9)) := yc1.2.1.aw aw_21 (by decide) rfl rfl
      have nu_28s := sg_aw (S := S) (S1 := S) (Y := Y) (fun _ _ => ⟨rfl, rfl⟩) aw_21 (by decide)
      have hC0 := hC
      refine c_ci (c_runV (As := [.int (nI (z.1 8 u9)), .int 2, .int 1]) (rest := []) (q0 := 4) (ci := 5) ⟨hx, hb, hml, hown, htu⟩ ((x_copied_all 60) l G S_18 T V X Y Z q 0 1 2 ((newTime (w1 z 0 5 n9))) ((z.1 8 u9)) ((z.1 9 u9 - 1)) lv ((tm + 1)) hC nu_28.1 nu_28.2.2.2 ((by omega)) kk_22 ((Or.inl ⟨rfl, rfl⟩)) ((by decide)) ((show 1 + 60 = 61 by decide)) ((by omega)) hw_19.2.1 hw_19.2.2.1 hw_19.2.2.2 ((by omega)) ((by omega)) ((by omega)) nu_28k nu_28m nu_28q h0 gu3 H) (cwV 3 htu hU_X5_131 rfl rfl rfl (by decide +kernel) ⟨show (60 + 4) + 1 ≤ 2 * fu + 141 by omega, show 8 + (12 + 11) + (42 * 60 + 140) ≤ 60 * fu + 6530 by omega⟩) hP hK hD hC hpp cw_4 rfl rfl hl.1 rfl (lv_room (Nat.le_of_ble_eq_true rfl)) dX5_typedName_63) hS hD hh hpp (fun r_29 S_30 H locs hw_31 hP hD hS hC hh hs_32 hpq => ?_)
      clear hpp
      have hpp := hpq
      clear hpq
      try dsimp only at hw_31
      have aw_33 : AW [6, 7, 8, 9, 16, 14, 10, 11, 12, 13, 25, 26, 35] [] S_18 S_30 := hw_31.1
      have aw_33t : AW [6, 7, 8, 9, 16, 14, 10, 11, 12, 13, 17, 18, 23, 24, 25, 26, 35] [8, 9, 10, 12, 13] S S_30 := aw_21t.tr (aw_33.mono (by decide) (by decide))
      have kk_34 : kK S_30 15 = 0 := (aw_33.2.1 15 (lt35 (by decide)) (by decide)).2.trans kk_22
      have kk_35 : kK S_30 23 = 120 := (aw_33.2.1 23 (lt35 (by decide)) (by decide)).2.trans kk_23
      have kk_36 : kK S_30 24 = 120 := (aw_33.2.1 24 (lt35 (by decide)) (by decide)).2.trans kk_24
      have ii_37 : S_30.1 11 = nI top := (aw_33.1 11 (by decide)).trans ii_25
      have ii_38 : S_30.1 8 = nI (tm + 1) := (aw_33.1 8 (by decide)).trans hw_19.2.1
      have ii_39 : S_30.1 9 = nI (z.1 9 u9 - 1) := (aw_33.1 9 (by decide)).trans hw_19.2.2.1
      have ii_40 : S_30.1 10 = nI lv := (aw_33.1 10 (by decide)).trans hw_19.2.2.2
      have tj_41 : TJ S_30 N := TJ.aw tj_26 aw_33 (by decide)
      obtain ⟨tx_42C, tx_42E⟩ := hw_31.2
      have tx_42 := CX.tx tx_42C nu_28 (aw_33.1 12 (by decide)) hq
      clear hw_31
      obtain ⟨tx_42R, tx_42e⟩ : ∃ R, startCp (w1 z 0 5 n9) (z.1 8 u9) 2 (z.1 9 u9 - 1) lv = R := ⟨_, rfl⟩
      rw [show cp 60 (newTime (w1 z 0 5 n9)) (z.1 8 u9) 2 (z.1 9 u9 - 1) lv = tx_42R from tx_42e] at tx_42E
      obtain ⟨tx_42k, tx_42m, tx_42q, tx_42g0, tx_42g, tx_42b⟩ := tx_42E
      have tx_42W : Wc (w1 z 0 5 n9) tx_42R.1 := by rw [← tx_42e]; exact wc_start _ _ _ _ _
      have tx_42L : Lx (w1 z 0 5 n9) tx_42R.1 := by rw [← tx_42e]; exact x_start _ _ _ _ _
      have tx_42K : K89 (w1 z 0 5 n9) tx_42R.1 := by rw [← tx_42e]; exact k_start _ _ _ _ _
      have tx_42sp : stp tx_42R.1 = stp z := tx_42W.2
      have tx_42a : AW [6, 7, 8, 9, 16, 14, 10, 11, 12, 13, 25, 26, 35] [8, 9, 10] S S_30 := (aw_21.mono (by decide) (by decide)).tr (aw_33.mono (by decide) (by decide))
      have tx_42e23 := tx_42a.2.1 23 (lt35 (by decide)) (by decide)
      have tx_42e24 := tx_42a.2.1 24 (lt35 (by decide)) (by decide)
      have tx_4213 : S_30.1 13 = -9 := (tx_42a.1 13 (by decide)).trans h13
      have tx_42yc : YC S S_30 Y tm (cntT tr (fu + 1) n9) gs z tx_42R.1 (tm + 1) gs := ⟨tx_42k, tx_42q, tx_42m.m0, ii_38, ⟨Nat.le_succ _, by omega, by omega⟩, sg_tr nu_28s tx_42g0 (Nat.le_refl _), ⟨tx_42e23.2.trans hk2.1, tx_42e24.2.trans hk2.2⟩, fun _ => ⟨fun _ h => h, (yc1.2.2.2.2.2.2.2 h0).2.to tx_42K tx_42L.1 tx_42e23.1 tx_42e24.1⟩⟩
      have tx_42er : ty tr top (fu + 1) z n9 lv = tx_42R := by rw [ty_2 h0 hkd, tyName_c hbd h9z, tx_42e]
      have tx_42F : YF S S_30 Y tm (cntT tr (fu + 1) n9) gs n9 z (ty tr top (fu + 1) z n9 lv) r_29 := by
        rw [tx_42er]
        refine ⟨⟨tm + 1, gs, tx_42yc⟩, fun h => ⟨(tx_42g h).1, (tx_42g h).2, ((tx_42a.1 12 (by decide)).trans hU.2.1).trans (by rw [tx_42sp, hzq]), tx_4213⟩, fun h => ⟨tx_42b h, pl_wh tx_42W.1 h0 h tx_4213⟩⟩
      exact c_iret (v := r_29) hx hb hr hK hP hD hS hC hh hpp ⟨aw_33t, ⟨TX.tail tx_42 (by omega), tx_42F⟩⟩ dX5_typedName_66 hlocks

set_option maxHeartbeats 4000000 in
set_option maxRecDepth 100000 in
/-- typedRecord -/
theorem x_typedRecord (l : Launch) (G : cG) (S : cS) (fu : Nat) (T : Nat) (V : Nat) (X : Nat) (Y : Nat) (Z : Nat) (q : Nat) (N : Nat) (dp : Nat) (lv : Nat) (tr : aM) (mk : Nat → Int32) (rk : Nat → Nat) (top : Nat) (gs : Nat → Prop) (z : aS) (n9 : Nat) (tm : Nat) (hC : CL S) (ih : xTypedAt fu) (hU : US S T V X Y Z q) (hq : q ≤ 1500) (h15 : kK S 15 = 0) (hT : TJ S N) (hdp : dp + (fu + 1) = 61) (hlv : lv ≤ dp) (hY2 : Y + (6 * (fu + 1) + 372) ≤ 900) (hE : TC S tr mk N) (hO : TO S tr N) (hrk : RKs tr rk N) (hn : n9 < N) (htp : top < N) (h11 : S.1 11 = nI top) (hcv : ∀ j, Cv gs tr top j n9) (hz : KT S z) (hkq : KQ S z) (hm0 : KM0 S tm) (h8 : S.1 8 = nI tm) (htm : tm + 1501 + cntT tr ((fu + 1)) n9 ≤ 2 ^ 29 + stp z) (h0 : sto z = 0) (hzq : stp z = q) (h13 : S.1 13 = -9) (hk2 : kK S 23 = 120 ∧ kK S 24 = 120) (hgc : GC gs z S) (hkd : tr 0 n9 = 5) (Hs : Heap) : Met l yX5_typedRecord (wC yX5_typedRecord cX5_typedRecord 8 (some .int)) (cRm S (2 * fu + 141) (60 * fu + 6530)) (cPc G S Hs [.ref (ga G 4), .int (nI n9), .int (nI lv), .int (nI dp)]) (cQi G S Hs (fun v u => AW [6, 7, 8, 9, 16, 14, 10, 11, 12, 13, 17, 18, 23, 24, 25, 26, 35] [8, 9, 10, 12, 13] S u ∧ (TX u T V Y q (6 * (fu + 1) + 372) v ∧ YF S u Y tm (cntT tr (fu + 1) n9) gs n9 z (ty tr top (fu + 1) z n9 lv) v))) (CC - PT S) (12 * (CC - PT S)) (cA G S Hs.size) := by
  refine Met.ofW (cc := cX5_typedRecord) (maxL := 8) (ret := (some .int)) (by decide) rfl ?_
  intro p e s m args below meth c s₁ B hml hv
  obtain ⟨rfl, hsz, hP, hK, hD0, -⟩ := hv
  have hx := B.exec
  have hb := B.bytes
  have hr := B.returns
  have htu : ∀ w ∈ CU, w.before _ s = true := fun w h => atoms_spec (ws := (wC yX5_typedRecord cX5_typedRecord 8 (some .int))) B.pre w (List.mem_cons_of_mem _ h)
  have hown : s.vm.findClass RX5 = some m.cls := findClass_of_methodNamed B.named
  have hlocks := B.notSynchronized
  subst hsz
  have hD : cD (cA G S s.heap.size) G S := cD_self hD0
  have hl := lv_entry ([.ref (ga G 4), .int (nI n9), .int (nI lv), .int (nI dp)]) (n := 8) (Nat.le_of_ble_eq_true rfl)
  rw [lg_entry_eq]
  generalize (lg_sl ([.ref (ga G 4), .int (nI n9), .int (nI lv), .int (nI dp)]) ++ List.replicate (8 - (lg_sl ([.ref (ga G 4), .int (nI n9), .int (nI lv), .int (nI dp)])).length) Slot.unset).toArray = ls at hl ⊢
  have hl : lv_has ls 8 [(0, .ref (ga G 4)), (1, .int (nI n9)), (2, .int (nI lv)), (3, .int (nI dp))] := hl
  obtain ⟨H, hHe⟩ : ∃ H : Heap, H = s.heap := ⟨_, rfl⟩
  rw [← hHe] at hP
  have hS : va_S (cA G S s.heap.size) s.heap H [] := by rw [hHe]; exact va_S.rf
  have hh : HS S S := HS.rf
  have hpp : PT S ≤ PT S := Nat.le_refl _
  have hB9 := hC.1
  refine W.heq hHe ?_
  refine c_ent (S := S) ?_
  obtain ⟨tT, tV, tB, tX⟩ := id hU.1.2.1
  have yc0 : YC S S Y tm 0 gs z z tm gs := ⟨hz, hkq, hm0, h8, ⟨Nat.le_refl _, Nat.le_refl _, by omega⟩, fun _ _ => ⟨rfl, rfl⟩, hk2, fun _ => ⟨fun _ h => h, hgc⟩⟩
  have hp9 : prts (tr 0 n9) (tr 2 n9) = tr 2 n9 := by rw [hkd]; rfl
  have h26 : tr 2 n9 ≤ 6 := (hE.2 n9 hn).2.2.2.2.1
  have hct := csum_5 (tr := tr) (k := fu) (n := n9) hkd
  refine lv_aload_n hx hb dX5_typedRecord_0 rfl (lv_at hl 0 rfl) ?_
  refine va_get (D := gD G) (ci := 5) (v := .ref (ga G 2)) (C := RX5) (T := TX5) (N := 15) hx hb htu cu_in5 hown hK hP 4 cw_4 rfl 1 (by decide) (htu _ C_45) (fun _ h9 => h9) rfl dX5_typedRecord_1 ?_
  have hC0 := hC
  refine c_ci (c_runV (As := []) (rest := []) (q0 := 2) (ci := 4) ⟨hx, hb, hml, hown, htu⟩ (y_stagedCount l G S  hC  H) (cwV 0 htu hU_X5_153 rfl rfl rfl (by decide +kernel) ⟨show 0 + 1 ≤ 2 * fu + 141 by omega, show 8 + (1 + 11) + 0 ≤ 60 * fu + 6530 by omega⟩) hP hK hD hC hpp cw_2 rfl rfl hl.1 rfl (lv_room (Nat.le_of_ble_eq_true rfl)) dX5_typedRecord_4) hS hD hh hpp (fun r_1 S_2 H locs hw_3 hP hD hS hC hh hs_4 hpq => ?_)
  clear hpp
  have hpp := hpq
  clear hpq
  obtain ⟨-, hu9, hw_3⟩ := hw_3
  have hu9 := hu9.symm
  subst hu9
  obtain rfl : r_1 = nI Y := hw_3.trans (congrArg nI hU.1.1.2.2.2.2.2.2.2.2.2.1)
  refine lv_istore (lv' := [(4, .int (nI Y)), (0, .ref (ga G 4)), (1, .int (nI n9)), (2, .int (nI lv)), (3, .int (nI dp))]) hx hb dX5_typedRecord_7 hl (by decide) rfl (fun ls hl => ?_)
  refine lv_aload_n hx hb dX5_typedRecord_9 rfl (lv_at hl 1 rfl) ?_
  refine va_get (D := gD G) (ci := 5) (v := .ref (ga G 1)) (C := RX5) (T := TX5) (N := 15) hx hb htu cu_in5 hown hK hP 4 cw_4 rfl 0 (by decide) (htu _ C_60) (fun _ h9 => h9) rfl dX5_typedRecord_10 ?_
  refine lv_iload_n hx hb dX5_typedRecord_13 rfl (lv_at hl 2 rfl) ?_
  have hC0 := hC
  refine c_ci (c_runV (As := [.int (nI n9)]) (rest := []) (q0 := 1) (ci := 3) ⟨hx, hb, hml, hown, htu⟩ (tt_partCount l G S N (nI n9) hC hT.1 H) (cwV 1 htu hU_X5_156 rfl rfl rfl (by decide +kernel) ⟨show 1 + 1 ≤ 2 * fu + 141 by omega, show 8 + (2 + 11) + 21 ≤ 60 * fu + 6530 by omega⟩) hP hK hD hC hpp cw_1 rfl rfl hl.1 rfl (lv_room (Nat.le_of_ble_eq_true rfl)) dX5_typedRecord_14) hS hD hh hpp (fun r_5 S_6 H locs hw_7 hP hD hS hC hh hs_8 hpq => ?_)
  clear hpp
  have hpp := hpq
  clear hpq
  obtain ⟨-, hu9, hw_7⟩ := hw_7
  have hu9 := hu9.symm
  subst hu9
  obtain rfl : r_5 = nI (tr 2 n9) := hw_7.trans (hE.cnt hn)
  refine lv_istore (lv' := [(5, .int (nI (tr 2 n9))), (4, .int (nI Y)), (0, .ref (ga G 4)), (1, .int (nI n9)), (2, .int (nI lv)), (3, .int (nI dp))]) hx hb dX5_typedRecord_17 hl (by decide) rfl (fun ls hl => ?_)
  refine lv_iconst (v := 0) hx hb dX5_typedRecord_19 (by decide) ?_
  refine lv_istore (lv' := [(6, .int 0), (5, .int (nI (tr 2 n9))), (4, .int (nI Y)), (0, .ref (ga G 4)), (1, .int (nI n9)), (2, .int (nI lv)), (3, .int (nI dp))]) hx hb dX5_typedRecord_20 hl (by decide) rfl (fun ls hl => ?_)
  refine w_loop (fun j H locs k sl g => ∃ (S1 : cS) (T1 : Nat) (V1 : Nat) (X1 : Nat) (Z1 : Nat) (q1 : Nat) (zi : aS) (t1 : Nat) (gs1 : Nat → Prop) (acc : List Nat) (i : Nat) (ls : Array Slot), CL S1 ∧ HS S S1 ∧ PT S ≤ PT S1 ∧ AW [6, 7, 8, 9, 16, 14, 10, 11, 12, 13, 17, 18, 23, 24, 25, 26, 35] [8, 9, 10, 12, 13] S S1 ∧ i + j = tr 2 n9 ∧ US S1 T1 V1 X1 (Y + i) Z1 q1 ∧ (T ≤ T1 ∧ V ≤ V1 ∧ q ≤ q1 ∧ q1 ≤ 1500) ∧ YC S S1 Y tm (csum tr fu n9 i) gs z zi t1 gs1 ∧ sto zi = 0 ∧ stp zi = q1 ∧ S1.1 13 = -9 ∧ Cl (fun s x => ty tr top fu s x lv) z (pLs tr n9) zi acc i ∧ (∀ k, k < i → kF S1 12 (Y + k) = nI ((lLs tr n9).getD k 0) ∧ kF S1 13 (Y + k) = nI (acc.getD k 0) ∧ acc.getD k 0 < nT zi) ∧ k = PT S1 - PT S ∧ sl = 12 * (PT S1 - PT S) ∧ cP G S1 H ∧ cD (cA G S s.heap.size) G S1 ∧ va_S (cA G S s.heap.size) s.heap H locs ∧ lv_has ls 8 [(0, .ref (ga G 4)), (1, .int (nI n9)), (2, .int (nI lv)), (3, .int (nI dp)), (4, .int (nI Y)), (5, .int (nI (tr 2 n9))), (6, .int (nI i))] ∧ g = F0 m 22 ls []) ?_ ?_ ((tr 2 n9)) _ _ _ _ _ ⟨S, T, V, X, Z, q, z, tm, gs, [], 0, ls, hC, hh, hpp, AW.rf, by omega, hU, (by omega), yc0, h0, hzq, h13, Cl.start, (fun k hk => absurd hk (Nat.not_lt_zero _)), rfl, rfl, hP, hD, hS, lv_sub hl [3, 4, 5, 6, 2, 1, 0] rfl, rfl⟩
  · intro H locs k sl g hI
    clear hpp
    obtain ⟨S1, T1, V1, X1, Z1, q1, zi, t1, gs1, acc, i, ls, hC, hh, hpp, hAW, hp0, hp1, hp2, hp3, hp4, hp5, hp6, hp7, hp8, rfl, rfl, hP, hD, hS, hl, rfl⟩ := hI
    have x15 : kK S1 15 = 0 := (hAW.2.1 15 (lt35 (by decide)) (by decide)).2.trans h15
    have tj1 : TJ S1 N := TJ.aw hT hAW (by decide)
    obtain ⟨w1_, w2_, w3_, w4_⟩ := hp2
    obtain ⟨wT, wV, wB, wX⟩ := id hp1.1.2.1
    have hci := hp7.2.2
    have hziT : nT zi = T1 := hp3.1.1.1.symm.trans hp1.1.1.1
    have hw5 := yc_askn hp3 n9
    refine lv_iload hx hb dX5_typedRecord_22 (lv_at hl 6 rfl) ?_
    refine lv_iload hx hb dX5_typedRecord_24 (lv_at hl 5 rfl) ?_
    refine lv_icmp_ge (tgt := 82) hx hb dX5_typedRecord_26 (by decide) (fun c_9 => ?_) (fun c_9 => absurd (nI_le (by omega) (by omega)) c_9)
    refine lv_aload_n hx hb dX5_typedRecord_82 rfl (lv_at hl 0 rfl) ?_
    refine va_get (D := gD G) (ci := 5) (v := .ref (ga G 2)) (C := RX5) (T := TX5) (N := 15) hx hb htu cu_in5 hown hK hP 4 cw_4 rfl 1 (by decide) (htu _ C_45) (fun _ h9 => h9) rfl dX5_typedRecord_83 ?_
    refine lv_iload hx hb dX5_typedRecord_86 (lv_at hl 4 rfl) ?_
    have hC0 := hC
    refine c_ci (c_runV (As := [.int (nI Y)]) (rest := []) (q0 := 2) (ci := 4) ⟨hx, hb, hml, hown, htu⟩ (x_addRecord l G S1 T1 V1 V1 X1 ((Y + i)) Z1 Y ((w1 zi 0 5 n9)) ((lLs tr n9)) acc hC hp1.1 ((by omega)) ((by omega)) hw5.1 hp4 ((by rw [lLs_len]; omega)) ((by omega)) ((fun k hk => ⟨(hp8 k (by omega)).1, (hp8 k (by omega)).2.1, (hp8 k (by omega)).2.2, by rw [lLs_at (by omega)]; exact ((hE.2 n9 hn).2.2.2.2.2.2.2.2 hkd k (by omega)).2⟩)) H) (cwV 1 htu hU_X5_165 rfl rfl rfl (by decide +kernel) ⟨show 4 + 1 ≤ 2 * fu + 141 by omega, show 8 + (6 + 11) + 128 ≤ 60 * fu + 6530 by omega⟩) hP hK hD hC hpp cw_2 rfl rfl hl.1 rfl (lv_room (Nat.le_of_ble_eq_true rfl)) dX5_typedRecord_88) hS hD hh hpp (fun r_10 S_11 H locs hw_12 hP hD hS hC hh hs_13 hpq => ?_)
    clear hpp
    have hpp := hpq
    clear hpq
    try dsimp only at hw_12
    have aw_14 : AW [6, 7, 8, 9, 16, 10, 11, 12, 13] [] S1 S_11 := hw_12.1
    have aw_14t : AW [6, 7, 8, 9, 16, 14, 10, 11, 12, 13, 17, 18, 23, 24, 25, 26, 35] [8, 9, 10, 12, 13] S S_11 := hAW.tr (aw_14.mono (by decide) (by decide))
    have kk_15 : kK S_11 15 = 0 := (aw_14.2.1 15 (lt35 (by decide)) (by decide)).2.trans x15
    have tj_16 : TJ S_11 N := TJ.aw tj1 aw_14 (by decide)
    have hw_129 := hw_12.2
    clear hw_12
    have hfin : ty tr top (fu + 1) z n9 lv = mkR (w1 zi 0 5 n9) (lLs tr n9) acc := by rw [ty_5 h0 hkd, (hp7.done (by rw [pLs_len]; omega)).1, (hp7.done (by rw [pLs_len]; omega)).2, if_neg (not_not_intro hp4)]
    rcases hw_129 with ⟨ty_17v, ty_17s, ty_17f⟩ | ⟨ty_17v, ty_17t, ty_17, ty_17o, ⟨ty_17kt, ty_17k2, ty_17k0⟩, ty_17l, ty_1712, ty_1713s⟩
    · skip
      subst ty_17v
      have ty_17F : YF S S_11 Y tm (cntT tr (fu + 1) n9) gs n9 z (ty tr top (fu + 1) z n9 lv) (-6) := by
        rw [ty_17s]
        exact yf_bad (yc_stops (YC.cm hw5 (by have := csum_le (tr := tr) (k := fu) (n := n9) (show i ≤ tr 2 n9 by omega); omega)) 1 n9 (by decide) hp4) (by rw [sto_sp9 (s := w1 zi 0 5 n9) hp4]; decide) SM.rf (by rw [sto_sp9 (s := w1 zi 0 5 n9) hp4]; rfl) (pl_stops (w := w1 zi 0 5 n9) hp4 hp6) (x := 0) (hfin.trans (mkR_f (z := w1 zi 0 5 n9) hp4 ty_17f))
      have ty_17X : TX S_11 T V Y q (6 * (fu + 1) + 372) (-6) := by rw [ty_17s]; exact US.txb hp1 (by omega) (by omega) (by decide)
      exact c_iret (v := (-6)) hx hb hr hK hP hD hS hC hh hpp ⟨aw_14t, ⟨ty_17X, ty_17F⟩⟩ dX5_typedRecord_91 hlocks
    · skip
      subst ty_17v
      have ty_17us := US.ty hp1 ty_17 aw_14 (by decide) (by decide)
      have ty_17nn : nT (w1 zi 0 5 n9) ≠ 602 := by rw [show nT (w1 zi 0 5 n9) = T1 from hziT]; exact Nat.ne_of_lt ty_17t
      have ty_17nt : nT (mkR (w1 zi 0 5 n9) (lLs tr n9) acc).1 = T1 + 1 := by rw [mkR_e (z := w1 zi 0 5 n9) hp4 ty_17nn]; exact congrArg (· + 1) hziT
      have ty_17kq := kq_rec (a := lLs tr n9) (b := acc) hw5.2.1 aw_14 (by rw [show nT (w1 zi 0 5 n9) = T1 from hziT]; exact ty_17l) (ty_17.1.2.2.2.2.1.trans (by rw [show nT (w1 zi 0 5 n9) = T1 from hziT])) hp4 ty_17nn
      have ty_17yc := YC.leaf2 hw5 aw_14 ty_17kt ty_17kq (by decide) (by decide) (k_mkR _ _ _) (by rw [ty_17nt]; exact Nat.le_succ_of_le (Nat.le_of_eq hziT)) ((wc_mkR _ _ _).2) hp4 (fun j hj => by rw [ty_1712, ty_1713s]; exact ⟨rfl, rfl⟩)
      have ty_17F : YF S S_11 Y tm (cntT tr (fu + 1) n9) gs n9 z (ty tr top (fu + 1) z n9 lv) (nI T1) := yf_good (YC.cm ty_17yc (by have := csum_le (tr := tr) (k := fu) (n := n9) (show i ≤ tr 2 n9 by omega); omega)) ty_17k0 rfl (by rw [ty_17nt]; exact Nat.lt_succ_self _) (ty_17us.2.1.trans (by rw [(wc_mkR (w1 zi 0 5 n9) _ _).2]; exact congrArg nI hp5.symm)) ((aw_14.1 13 (by decide)).trans hp6) (hfin.trans (Prod.ext rfl ty_17k2))
      have ty_17X : TX S_11 T V Y q (6 * (fu + 1) + 372) (nI T1) := US.tx ty_17us (by omega) _
      exact c_iret (v := nI T1) hx hb hr hK hP hD hS hC hh hpp ⟨aw_14t, ⟨ty_17X, ty_17F⟩⟩ dX5_typedRecord_91 hlocks
  · intro j ih9 H locs k sl g hI
    clear hpp
    obtain ⟨S1, T1, V1, X1, Z1, q1, zi, t1, gs1, acc, i, ls, hC, hh, hpp, hAW, hp0, hp1, hp2, hp3, hp4, hp5, hp6, hp7, hp8, rfl, rfl, hP, hD, hS, hl, rfl⟩ := hI
    have x15 : kK S1 15 = 0 := (hAW.2.1 15 (lt35 (by decide)) (by decide)).2.trans h15
    have tj1 : TJ S1 N := TJ.aw hT hAW (by decide)
    obtain ⟨w1_, w2_, w3_, w4_⟩ := hp2
    obtain ⟨wT, wV, wB, wX⟩ := id hp1.1.2.1
    have hci := hp7.2.2
    have hziT : nT zi = T1 := hp3.1.1.1.symm.trans hp1.1.1.1
    refine lv_iload hx hb dX5_typedRecord_22 (lv_at hl 6 rfl) ?_
    refine lv_iload hx hb dX5_typedRecord_24 (lv_at hl 5 rfl) ?_
    refine lv_icmp_ge (tgt := 82) hx hb dX5_typedRecord_26 (by decide) (fun c_18 => absurd c_18 (nI_ge (by omega) (by omega))) (fun c_18 => ?_)
    refine lv_aload_n hx hb dX5_typedRecord_29 rfl (lv_at hl 0 rfl) ?_
    refine lv_aload_n hx hb dX5_typedRecord_30 rfl (lv_at hl 0 rfl) ?_
    refine va_get (D := gD G) (ci := 5) (v := .ref (ga G 1)) (C := RX5) (T := TX5) (N := 15) hx hb htu cu_in5 hown hK hP 4 cw_4 rfl 0 (by decide) (htu _ C_60) (fun _ h9 => h9) rfl dX5_typedRecord_31 ?_
    refine lv_iload_n hx hb dX5_typedRecord_34 rfl (lv_at hl 1 rfl) ?_
    refine lv_iload hx hb dX5_typedRecord_35 (lv_at hl 6 rfl) ?_
    have hC0 := hC
    refine c_ci (c_runV (As := [.int (nI n9), .int (nI i)]) (rest := [.ref (ga G 4)]) (q0 := 1) (ci := 3) ⟨hx, hb, hml, hown, htu⟩ (tt_partOf l G S1 N (nI n9) (nI i) hC tj1.1 H) (cwV 2 htu hU_X5_144 rfl rfl rfl (by decide +kernel) ⟨show 1 + 1 ≤ 2 * fu + 141 by omega, show 8 + (3 + 11) + 21 ≤ 60 * fu + 6530 by omega⟩) hP hK hD hC hpp cw_1 rfl rfl hl.1 rfl (lv_room (Nat.le_of_ble_eq_true rfl)) dX5_typedRecord_37) hS hD hh hpp (fun r_19 S_20 H locs hw_21 hP hD hS hC hh hs_22 hpq => ?_)
    clear hpp
    have hpp := hpq
    clear hpq
    obtain ⟨-, hu9, hw_21⟩ := hw_21
    have hu9 := hu9.symm
    subst hu9
    have hi : i < tr 2 n9 := by omega
    obtain rfl : r_19 = nI (tr (10 + i) n9) := hw_21.trans ((hE.aw hAW (by decide)).part hn (i := i) (by rw [hp9]; exact hi))
    refine lv_iload_n hx hb dX5_typedRecord_40 rfl (lv_at hl 2 rfl) ?_
    refine lv_iload_n hx hb dX5_typedRecord_41 rfl (lv_at hl 3 rfl) ?_
    refine lv_iconst (v := 1) hx hb dX5_typedRecord_42 (by decide) ?_
    refine lv_iadd hx hb dX5_typedRecord_43 ?_
    refine m_top (y := nI (dp + 1)) (nI_add dp 1) ?_
    have hC0 := hC
    refine c_ci (c_runV (As := [.int (nI (tr (10 + i) n9)), .int (nI lv), .int (nI (dp + 1))]) (rest := []) (q0 := 4) (ci := 5) ⟨hx, hb, hml, hown, htu⟩ (ih l G S1 T1 V1 X1 ((Y + i)) Z1 q1 N ((dp + 1)) lv tr mk rk top gs1 zi ((tr (10 + i) n9)) t1 hC hp1 ((by omega)) x15 tj1 ((by omega)) ((by omega)) ((by omega)) ((hE.aw hAW (by decide))) ((hO.aw hAW (by decide))) hrk ((hE.plt hn (i := i) (by rw [hp9]; exact hi))) htp (((hAW.1 11 (by decide)).trans h11)) ((Cv.part hcv ((hO n9 hn).2.2.1 i (by rw [hp9]; exact hi)) (hp3.2.2.2.2.2.2.2 hp4).1 (fun h => by unfold covers at h; omega))) hp3.1 hp3.2.1 hp3.2.2.1 hp3.2.2.2.1 ((by have h1 := hp3.2.2.2.2.1; have h2 := csum_le (tr := tr) (k := fu) (n := n9) (show i + 1 ≤ tr 2 n9 by omega); rw [csum_s] at h2; omega)) hp4 hp5 hp6 hp3.2.2.2.2.2.2.1 ((hp3.2.2.2.2.2.2.2 hp4).2) H) (cwV 3 htu hU_X5_77 rfl rfl rfl (by decide +kernel) ⟨show (2 * fu + 140) + 1 ≤ 2 * fu + 141 by omega, show 8 + (5 + 11) + (60 * fu + 6500) ≤ 60 * fu + 6530 by omega⟩) hP hK hD hC hpp cw_4 rfl rfl hl.1 rfl (lv_room (Nat.le_of_ble_eq_true rfl)) dX5_typedRecord_44) hS hD hh hpp (fun r_23 S_24 H locs hw_25 hP hD hS hC hh hs_26 hpq => ?_)
    clear hpp
    have hpp := hpq
    clear hpq
    try dsimp only at hw_25
    have aw_27 : AW [6, 7, 8, 9, 16, 14, 10, 11, 12, 13, 17, 18, 23, 24, 25, 26, 35] [8, 9, 10, 12, 13] S1 S_24 := hw_25.1
    have aw_27t : AW [6, 7, 8, 9, 16, 14, 10, 11, 12, 13, 17, 18, 23, 24, 25, 26, 35] [8, 9, 10, 12, 13] S S_24 := hAW.tr (aw_27.mono (by decide) (by decide))
    have kk_28 : kK S_24 15 = 0 := (aw_27.2.1 15 (lt35 (by decide)) (by decide)).2.trans x15
    have tj_29 : TJ S_24 N := TJ.aw tj1 aw_27 (by decide)
    obtain ⟨tx_30A, tx_30E⟩ := hw_25.2
    clear hw_25
    obtain ⟨tx_30R, tx_30e⟩ : ∃ R, ty tr top fu zi (tr (10 + i) n9) lv = R := ⟨_, rfl⟩
    have tx_30pl : (pLs tr n9).getD i 0 = tr (10 + i) n9 := pLs_at hi
    have tx_30c := hp7.step (by rw [pLs_len]; exact hi) hp4
    rw [tx_30pl, tx_30e] at tx_30c
    rw [tx_30e] at tx_30E
    obtain ⟨⟨tx_30t, tx_30gs, tx_30y0⟩, tx_30g, tx_30b⟩ := tx_30E
    have tx_30yc := YC.tr hp3 tx_30y0 (Nat.le_add_right Y i) hp4
    have tx_30L : Lx zi tx_30R.1 := by rw [← tx_30e]; exact x_ty _ _ _ _ _ _
    rcases Nat.eq_zero_or_pos (sto tx_30R.1) with tx_30z | tx_30z
    · skip
      obtain ⟨tx_30v, tx_30x, tx_3012, tx_3013⟩ := tx_30g tx_30z
      subst tx_30v
      have tx_306 := tx_30yc.1.1.2.2.2.2.2.2.2.1
      have tx_300 : 0 ≤ nI tx_30R.2 := Int32.not_lt.mp (nI_n0 (by omega))
      obtain ⟨tx_30T, tx_30V, tx_30X, tx_30Z, tx_30q, tx_30u, tx_301, tx_302, tx_303, tx_304⟩ := tx_30A.ok tx_300
      obtain ⟨tx_30tT, tx_30tV, tx_30tB, tx_30tX⟩ := id tx_30u.1.2.1
      have tx_30sq : stp tx_30R.1 = tx_30q := (nI_eq (by have := tx_30yc.2.2.2.2.1; omega) (by omega)).mp (tx_3012.symm.trans tx_30u.2.1)
      clear tx_30g tx_30b tx_30A
      refine lv_istore (lv' := [(7, .int (nI tx_30R.2)), (0, .ref (ga G 4)), (1, .int (nI n9)), (2, .int (nI lv)), (3, .int (nI dp)), (4, .int (nI Y)), (5, .int (nI (tr 2 n9))), (6, .int (nI i))]) hx hb dX5_typedRecord_47 hl (by decide) rfl (fun ls hl => ?_)
      refine lv_iload hx hb dX5_typedRecord_49 (lv_at hl 0 rfl) ?_
      refine lv_if_ge (tgt := 57) hx hb dX5_typedRecord_51 (by decide) (fun c_31 => ?_) (fun c_31 => absurd (Int32.not_lt.mp (nI_n0 (by omega))) c_31)
      refine lv_aload_n hx hb dX5_typedRecord_57 rfl (lv_at hl 1 rfl) ?_
      refine va_get (D := gD G) (ci := 5) (v := .ref (ga G 2)) (C := RX5) (T := TX5) (N := 15) hx hb htu cu_in5 hown hK hP 4 cw_4 rfl 1 (by decide) (htu _ C_45) (fun _ h9 => h9) rfl dX5_typedRecord_58 ?_
      refine lv_aload_n hx hb dX5_typedRecord_61 rfl (lv_at hl 1 rfl) ?_
      refine va_get (D := gD G) (ci := 5) (v := .ref (ga G 1)) (C := RX5) (T := TX5) (N := 15) hx hb htu cu_in5 hown hK hP 4 cw_4 rfl 0 (by decide) (htu _ C_60) (fun _ h9 => h9) rfl dX5_typedRecord_62 ?_
      refine lv_iload_n hx hb dX5_typedRecord_65 rfl (lv_at hl 2 rfl) ?_
      refine lv_iload hx hb dX5_typedRecord_66 (lv_at hl 7 rfl) ?_
      have hC0 := hC
      refine c_ci (c_runV (As := [.int (nI n9), .int (nI i)]) (rest := [.ref (ga G 2)]) (q0 := 1) (ci := 3) ⟨hx, hb, hml, hown, htu⟩ (tt_labelOf l G S_24 N (nI n9) (nI i) hC tj_29.1 H) (cwV 2 htu hU_X5_159 rfl rfl rfl (by decide +kernel) ⟨show 1 + 1 ≤ 2 * fu + 141 by omega, show 8 + (3 + 11) + 21 ≤ 60 * fu + 6530 by omega⟩) hP hK hD hC hpp cw_1 rfl rfl hl.1 rfl (lv_room (Nat.le_of_ble_eq_true rfl)) dX5_typedRecord_68) hS hD hh hpp (fun r_32 S_33 H locs hw_34 hP hD hS hC hh hs_35 hpq => ?_)
      clear hpp
      have hpp := hpq
      clear hpq
      obtain ⟨-, hu9, hw_34⟩ := hw_34
      have hu9 := hu9.symm
      subst hu9
      obtain rfl : r_32 = nI ((lLs tr n9).getD i 0) := hw_34.trans (by rw [lLs_at hi]; exact lab_at (hE.aw aw_27t (by decide)) hn hkd hi)
      refine lv_iload hx hb dX5_typedRecord_71 (lv_at hl 0 rfl) ?_
      have hC0 := hC
      refine c_cv (c_runV (As := [.int (nI ((lLs tr n9).getD i 0)), .int (nI tx_30R.2)]) (rest := []) (q0 := 2) (ci := 4) ⟨hx, hb, hml, hown, htu⟩ (x_stage l G S_24 tx_30T tx_30V tx_30V tx_30X ((Y + i)) tx_30Z (nI ((lLs tr n9).getD i 0)) (nI tx_30R.2) hC tx_30u.1 ((by omega)) H) (cwV 2 htu hU_X5_162 rfl rfl rfl (by decide +kernel) ⟨show 3 + 1 ≤ 2 * fu + 141 by omega, show 8 + (3 + 11) + 103 ≤ 60 * fu + 6530 by omega⟩) hP hK hD hC hpp cw_2 rfl rfl hl.1 rfl (lv_room (Nat.le_of_ble_eq_true rfl)) dX5_typedRecord_73) hS hD hh hpp (fun S_37 H locs hw_38 hP hD hS hC hh hs_39 hpq => ?_)
      clear hpp
      have hpp := hpq
      clear hpq
      try dsimp only at hw_38
      have aw_40 : AW [12, 13] [] S_24 S_37 := hw_38.1
      have aw_40t : AW [6, 7, 8, 9, 16, 14, 10, 11, 12, 13, 17, 18, 23, 24, 25, 26, 35] [8, 9, 10, 12, 13] S S_37 := aw_27t.tr (aw_40.mono (by decide) (by decide))
      have kk_41 : kK S_37 15 = 0 := (aw_40.2.1 15 (lt35 (by decide)) (by decide)).2.trans kk_28
      have tj_42 : TJ S_37 N := TJ.aw tj_29 aw_40 (by decide)
      obtain ⟨ty_43, ty_431, ty_432, ty_433⟩ := hw_38.2
      have us_44 := US.ty tx_30u ty_43 aw_40 (by decide) (by decide)
      have ty_43yc := YC.stg tx_30yc aw_40 ty_433 (Nat.le_add_right Y i) (by decide) (by decide)
      rw [← csum_s] at ty_43yc
      have ty_4313 : S_37.1 13 = -9 := (aw_40.1 13 (by decide)).trans tx_3013
      have ty_43w : ∀ k, k < i + 1 → kF S_37 12 (Y + k) = nI ((lLs tr n9).getD k 0) ∧ kF S_37 13 (Y + k) = nI ((acc ++ [tx_30R.2]).getD k 0) ∧ (acc ++ [tx_30R.2]).getD k 0 < nT tx_30R.1 := fun k hk => by
        rcases Nat.lt_or_ge k i with hq2 | hq2
        · have hk2_ := Nat.add_lt_add_left hq2 Y
          rw [(ty_433 (Y + k) hk2_).1, (ty_433 (Y + k) hk2_).2, (tx_30y0.2.2.2.2.2.1 (Y + k) hk2_).1, (tx_30y0.2.2.2.2.2.1 (Y + k) hk2_).2, gtL (by rw [hci]; exact hq2)]
          exact ⟨(hp8 k hq2).1, (hp8 k hq2).2.1, Nat.lt_of_lt_of_le (hp8 k hq2).2.2 tx_30L.1⟩
        · obtain rfl : k = i := Nat.le_antisymm (Nat.le_of_lt_succ hk) hq2
          rw [gtR hci.symm]
          exact ⟨ty_431, ty_432, tx_30x⟩
      refine lv_iinc (v := nI (i + 1)) (lv' := [(6, .int (nI (i + 1))), (7, .int (nI tx_30R.2)), (0, .ref (ga G 4)), (1, .int (nI n9)), (2, .int (nI lv)), (3, .int (nI dp)), (4, .int (nI Y)), (5, .int (nI (tr 2 n9)))]) hx hb dX5_typedRecord_76 hl (k := 7) rfl (nI_1 i) (by decide) rfl (fun ls hl => ?_)
      refine lv_goto (tgt := 22) hx hb dX5_typedRecord_79 (by decide) ?_
      exact ih9 _ _ _ _ _ ⟨S_37, tx_30T, tx_30V, tx_30X, tx_30Z, tx_30q, tx_30R.1, tx_30t, tx_30gs, (acc ++ [tx_30R.2]), i + 1, ls, hC, hh, hpp, aw_40t, by omega, us_44, (by omega), ty_43yc, tx_30z, tx_30sq, ty_4313, tx_30c, ty_43w, rfl, rfl, hP, hD, hS, lv_sub hl [2, 3, 4, 5, 6, 7, 0] rfl, rfl⟩
    · skip
      have tx_30zz : sto tx_30R.1 ≠ 0 := Nat.ne_of_gt tx_30z
      obtain ⟨tx_30v, tx_30p⟩ := tx_30b tx_30zz
      have tx_30nn : ¬ 0 ≤ r_23 := Int32.not_le.mpr (by rw [tx_30v]; exact sc_neg tx_30zz)
      clear tx_30g tx_30b
      refine lv_istore (lv' := [(7, .int r_23), (0, .ref (ga G 4)), (1, .int (nI n9)), (2, .int (nI lv)), (3, .int (nI dp)), (4, .int (nI Y)), (5, .int (nI (tr 2 n9))), (6, .int (nI i))]) hx hb dX5_typedRecord_47 hl (by decide) rfl (fun ls hl => ?_)
      refine lv_iload hx hb dX5_typedRecord_49 (lv_at hl 0 rfl) ?_
      refine lv_if_ge (tgt := 57) hx hb dX5_typedRecord_51 (by decide) (fun c_45 => absurd c_45 tx_30nn) (fun c_45 => ?_)
      refine lv_iload hx hb dX5_typedRecord_54 (lv_at hl 0 rfl) ?_
      have hfin : ty tr top (fu + 1) z n9 lv = (tx_30R.1, 0) := by rw [ty_5 h0 hkd, tx_30c.stop tx_30zz, if_pos tx_30zz]
      rw [← csum_s] at tx_30yc
      exact c_iret (v := r_23) hx hb hr hK hP hD hS hC hh hpp ⟨aw_27t, ⟨TX.bad tx_30A (by omega) (Int32.not_le.mp tx_30nn), yf_bad (YC.cm tx_30yc (by have := csum_le (tr := tr) (k := fu) (n := n9) (show i + 1 ≤ tr 2 n9 by omega); omega)) tx_30zz SM.rf tx_30v (Or.inl tx_30p) hfin⟩⟩ dX5_typedRecord_56 hlocks

