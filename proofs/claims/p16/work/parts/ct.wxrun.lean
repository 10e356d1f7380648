/-! ===== the class's runs are the machine's ===== -/
def xRunAt (fu : Nat) : Prop := ∀ (l : Launch) (G : cG) (S : cS) (ws : wmS) (al : Nat) (f9 : Nat) (tr : aM) (N : Nat) (dp : Nat → Nat) (mk : Nat → Int32) (d9 : Nat) (n9 : Nat) (e9 : Nat) (hC : CL S) (hR : RCw S ws al f9) (hT : TJ S N) (hE : TC S tr mk N) (hWf : wmW tr N dp ws) (hTm : wmT tr N dp) (h0 : hlt ws = 0) (hn : n9 < N) (he : e9 ≤ ne ws) (hel : eln ws e9 ≤ dp n9) (hd : d9 + fu = 61) (Hs : Heap), Met l yX6_run (wC yX6_run cX6_run 4 (some .int)) (cRm S (2 * fu + 6) (60 * fu + 200)) (cPc G S Hs [.ref (ga G 5), .int (nI n9), .int (sgt e9), .int (nI d9)]) (cQi G S Hs (fun v u => AW [27, 28, 29, 30, 31, 32, 33, 34] [111, 112] S u ∧ (XQ S u al f9 0 ws (wmx tr mk al fu ws n9 e9) v))) (CC - PT S) (12 * (CC - PT S)) (cA G S Hs.size)

set_option maxHeartbeats 4000000 in
set_option maxRecDepth 100000 in
/-- runApply -/
theorem x_runApply (l : Launch) (G : cG) (S : cS) (fu : Nat) (ws : wmS) (al : Nat) (f9 : Nat) (tr : aM) (N : Nat) (dp : Nat → Nat) (mk : Nat → Int32) (d9 : Nat) (n9 : Nat) (e9 : Nat) (hC : CL S) (ih : xRunAt fu) (hR : RCw S ws al f9) (hT : TJ S N) (hE : TC S tr mk N) (hWf : wmW tr N dp ws) (hTm : wmT tr N dp) (h0 : hlt ws = 0) (hn : n9 < N) (he : e9 ≤ ne ws) (hel : eln ws e9 ≤ dp n9) (hd : d9 + (fu + 1) = 61) (hc : wnv ws + 1 ≤ bgn ws ∧ ne ws + 1 ≤ bgn ws ∧ f9 + 6 ≤ 6 * bgn ws) (hk : tr 0 n9 = 4) (Hs : Heap) : Met l yX6_runApply (wC yX6_runApply cX6_runApply 8 (some .int)) (cRm S (2 * fu + 7) (60 * fu + 230)) (cPc G S Hs [.ref (ga G 5), .int (nI n9), .int (sgt e9), .int (nI d9)]) (cQi G S Hs (fun v u => AW [27, 28, 29, 30, 31, 32, 33, 34] [111, 112] S u ∧ (XQ S u al f9 1 ws (wmApply tr (wmx tr mk al fu) ws n9 e9) v))) (CC - PT S) (12 * (CC - PT S)) (cA G S Hs.size) := by
  refine Met.ofW (cc := cX6_runApply) (maxL := 8) (ret := (some .int)) (by decide) rfl ?_
  intro p e s m args below meth c s₁ B hml hv
  obtain ⟨rfl, hsz, hP, hK, hD0, -⟩ := hv
  have hx := B.exec
  have hb := B.bytes
  have hr := B.returns
  have htu : ∀ w ∈ CU, w.before _ s = true := fun w h => atoms_spec (ws := (wC yX6_runApply cX6_runApply 8 (some .int))) B.pre w (List.mem_cons_of_mem _ h)
  have hown : s.vm.findClass RX6 = some m.cls := findClass_of_methodNamed B.named
  have hlocks := B.notSynchronized
  subst hsz
  have hD : cD (cA G S s.heap.size) G S := cD_self hD0
  have hl := lv_entry ([.ref (ga G 5), .int (nI n9), .int (sgt e9), .int (nI d9)]) (n := 8) (Nat.le_of_ble_eq_true rfl)
  rw [lg_entry_eq]
  generalize (lg_sl ([.ref (ga G 5), .int (nI n9), .int (sgt e9), .int (nI d9)]) ++ List.replicate (8 - (lg_sl ([.ref (ga G 5), .int (nI n9), .int (sgt e9), .int (nI d9)])).length) Slot.unset).toArray = ls at hl ⊢
  have hl : lv_has ls 8 [(0, .ref (ga G 5)), (1, .int (nI n9)), (2, .int (sgt e9)), (3, .int (nI d9))] := hl
  obtain ⟨H, hHe⟩ : ∃ H : Heap, H = s.heap := ⟨_, rfl⟩
  rw [← hHe] at hP
  have hS : va_S (cA G S s.heap.size) s.heap H [] := by rw [hHe]; exact va_S.rf
  have hh : HS S S := HS.rf
  have hpp : PT S ≤ PT S := Nat.le_refl _
  have hB9 := hC.1
  refine W.heq hHe ?_
  refine c_ent (S := S) ?_
  obtain ⟨hc1, hc2, hc3⟩ := id hc
  have hp9 : prts (tr 0 n9) (tr 2 n9) = 2 := by rw [hk]; rfl
  have hch0 : tr 10 n9 < N ∧ dp n9 + 1 ≤ dp (tr 10 n9) := (hTm.1 n9 hn).2.2 0 (by rw [hp9]; decide)
  have hch1 : tr 11 n9 < N ∧ dp n9 + 1 ≤ dp (tr 11 n9) := (hTm.1 n9 hn).2.2 1 (by rw [hp9]; decide)
  refine lv_aload_n hx hb dX6_runApply_0 rfl (lv_at hl 0 rfl) ?_
  refine lv_aload_n hx hb dX6_runApply_1 rfl (lv_at hl 0 rfl) ?_
  refine va_get (D := gD G) (ci := 6) (v := .ref (ga G 1)) (C := RX6) (T := TX6) (N := 14) hx hb htu cu_in6 hown hK hP 5 cw_5 rfl 0 (by decide) (htu _ C_162) (fun _ h9 => h9) rfl dX6_runApply_2 ?_
  refine lv_iload_n hx hb dX6_runApply_5 rfl (lv_at hl 1 rfl) ?_
  refine lv_iconst (v := 0) hx hb dX6_runApply_6 (by decide) ?_
  have hC0 := hC
  refine c_ci (c_runV (As := [.int (nI n9), .int 0]) (rest := [.ref (ga G 5)]) (q0 := 1) (ci := 3) ⟨hx, hb, hml, hown, htu⟩ (tt_partOf l G S N (nI n9) 0 hC hT.1 H) (cwV 2 htu hU_X6_134 rfl rfl rfl (by decide +kernel) ⟨show 1 + 1 ≤ 2 * fu + 7 by omega, show 8 + (3 + 11) + 21 ≤ 60 * fu + 230 by omega⟩) hP hK hD hC hpp cw_1 rfl rfl hl.1 rfl (lv_room (Nat.le_of_ble_eq_true rfl)) dX6_runApply_7) hS hD hh hpp (fun r_1 S_2 H locs hw_3 hP hD hS hC hh hs_4 hpp => ?_)
  obtain ⟨-, hu9, hw_3⟩ := hw_3
  have hu9 := hu9.symm
  subst hu9
  obtain rfl : r_1 = nI (tr 10 n9) := hw_3.trans (TC.part hE hn (i := 0) (by rw [hp9]; decide))
  refine lv_iload_n hx hb dX6_runApply_10 rfl (lv_at hl 2 rfl) ?_
  refine lv_iload_n hx hb dX6_runApply_11 rfl (lv_at hl 3 rfl) ?_
  refine lv_iconst (v := 1) hx hb dX6_runApply_12 (by decide) ?_
  refine lv_iadd hx hb dX6_runApply_13 ?_
  refine m_top (y := nI (d9 + 1)) (nI_add d9 1) ?_
  have R_5n0 : tr 10 n9 < N := hch0.1
  have R_5e0 : e9 ≤ ne ws := (Nat.le_trans he (Xt.rf (s := ws)).2.1)
  have R_5l0 : eln ws e9 ≤ dp (tr 10 n9) := (by rw [(Xt.rf (s := ws)).eln he]; have := hch0.2; omega)
  have R_5b0 : bgn ws ≤ al := hR.sz.2.2.1
  have hC0 := hC
  refine c_ci (c_runV (As := [.int (nI (tr 10 n9)), .int (sgt e9), .int (nI (d9 + 1))]) (rest := []) (q0 := 5) (ci := 6) ⟨hx, hb, hml, hown, htu⟩ (ih l G S ws al f9 tr N dp mk (d9 + 1) (tr 10 n9) e9 hC hR hT hE hWf hTm h0 R_5n0 R_5e0 R_5l0 ((by omega)) H) (cwV 3 htu hU_X6_62 rfl rfl rfl (by decide +kernel) ⟨show (2 * fu + 6) + 1 ≤ 2 * fu + 7 by omega, show 8 + (4 + 11) + (60 * fu + 200) ≤ 60 * fu + 230 by omega⟩) hP hK hD hC hpp cw_5 rfl rfl hl.1 rfl (lv_room (Nat.le_of_ble_eq_true rfl)) dX6_runApply_14) hS hD hh hpp (fun r_6 S_7 H locs hw_8 hP hD hS hC hh hs_9 hpp => ?_)
  try dsimp only at hw_8
  have aw_10 : AW [27, 28, 29, 30, 31, 32, 33, 34] [111, 112] S S_7 := hw_8.1
  have aw_10t : AW [27, 28, 29, 30, 31, 32, 33, 34] [111, 112] S S_7 := AW.rf.tr (aw_10.mono (by decide) (by decide))
  have tj_11 : TJ S_7 N := TJ.aw hT aw_10 (by decide)
  obtain ⟨R_5, R_5v, R_5e⟩ : ∃ a b, wmx tr mk al fu ws (tr 10 n9) e9 = (a, b) := ⟨_, _, rfl⟩
  have R_5p := wmx_ok hTm mk al fu ws (tr 10 n9) e9 hWf h0 R_5b0 R_5n0 R_5e0 R_5l0
  rw [R_5e] at R_5p
  obtain ⟨R_5W, R_5X, R_5c, R_5i⟩ := R_5p
  obtain ⟨R_5c1, R_5c2, R_5c3, R_5c4⟩ := R_5c
  dsimp only at R_5W R_5X R_5c1 R_5c2 R_5c3 R_5c4 R_5i
  have hw_8q := hw_8.2
  rw [R_5e] at hw_8q
  obtain ⟨R_5q, R_5b, R_5pl, R_5a⟩ := hw_8q
  dsimp only at R_5q R_5b R_5pl
  have te_12 : TC S_7 tr mk N := hE.aw aw_10 (by decide)
  refine lv_istore (lv' := [(4, .int r_6), (0, .ref (ga G 5)), (1, .int (nI n9)), (2, .int (sgt e9)), (3, .int (nI d9))]) hx hb dX6_runApply_17 hl (by decide) rfl (fun ls hl => ?_)
  refine lv_iload hx hb dX6_runApply_19 (lv_at hl 0 rfl) ?_
  refine lv_if_ge (tgt := 27) hx hb dX6_runApply_21 (by decide) (fun c_13 => ?_) (fun c_13 => ?_)
  · skip
    have R_5z : hlt R_5 = 0 := ans_ge R_5a c_13
    obtain ⟨R_5f, R_5R, R_5f1, R_5f2, R_5K⟩ := R_5q R_5z
    have R_5y : r_6 = nI R_5v := R_5a.trans (ans_go R_5z)
    subst R_5y
    have R_5vi := R_5i R_5z
    have R_5FK : KP S S_7 f9 f9 ws R_5 := KP.trans KP.rf R_5K (by omega) (by omega) (Xt.rf (s := ws)) R_5X
    have R_5XX := (Xt.rf (s := ws)).tr R_5X
    refine lv_aload_n hx hb dX6_runApply_27 rfl (lv_at hl 1 rfl) ?_
    refine lv_aload_n hx hb dX6_runApply_28 rfl (lv_at hl 1 rfl) ?_
    refine va_get (D := gD G) (ci := 6) (v := .ref (ga G 1)) (C := RX6) (T := TX6) (N := 14) hx hb htu cu_in6 hown hK hP 5 cw_5 rfl 0 (by decide) (htu _ C_162) (fun _ h9 => h9) rfl dX6_runApply_29 ?_
    refine lv_iload_n hx hb dX6_runApply_32 rfl (lv_at hl 2 rfl) ?_
    refine lv_iconst (v := 1) hx hb dX6_runApply_33 (by decide) ?_
    have hC0 := hC
    refine c_ci (c_runV (As := [.int (nI n9), .int 1]) (rest := [.ref (ga G 5)]) (q0 := 1) (ci := 3) ⟨hx, hb, hml, hown, htu⟩ (tt_partOf l G S_7 N (nI n9) 1 hC tj_11.1 H) (cwV 2 htu hU_X6_134 rfl rfl rfl (by decide +kernel) ⟨show 1 + 1 ≤ 2 * fu + 7 by omega, show 8 + (3 + 11) + 21 ≤ 60 * fu + 230 by omega⟩) hP hK hD hC hpp cw_1 rfl rfl hl.1 rfl (lv_room (Nat.le_of_ble_eq_true rfl)) dX6_runApply_34) hS hD hh hpp (fun r_14 S_15 H locs hw_16 hP hD hS hC hh hs_17 hpp => ?_)
    obtain ⟨-, hu9, hw_16⟩ := hw_16
    have hu9 := hu9.symm
    subst hu9
    obtain rfl : r_14 = nI (tr 11 n9) := hw_16.trans (TC.part te_12 hn (i := 1) (by rw [hp9]; decide))
    refine lv_iload_n hx hb dX6_runApply_37 rfl (lv_at hl 3 rfl) ?_
    refine lv_iload_n hx hb dX6_runApply_38 rfl (lv_at hl 4 rfl) ?_
    refine lv_iconst (v := 1) hx hb dX6_runApply_39 (by decide) ?_
    refine lv_iadd hx hb dX6_runApply_40 ?_
    refine m_top (y := nI (d9 + 1)) (nI_add d9 1) ?_
    have R_18n0 : tr 11 n9 < N := hch1.1
    have R_18e0 : e9 ≤ ne R_5 := (Nat.le_trans he R_5XX.2.1)
    have R_18l0 : eln R_5 e9 ≤ dp (tr 11 n9) := (by rw [R_5XX.eln he]; have := hch1.2; omega)
    have R_18b0 : bgn R_5 ≤ al := R_5R.sz.2.2.1
    have hC0 := hC
    refine c_ci (c_runV (As := [.int (nI (tr 11 n9)), .int (sgt e9), .int (nI (d9 + 1))]) (rest := []) (q0 := 5) (ci := 6) ⟨hx, hb, hml, hown, htu⟩ (ih l G S_7 R_5 al R_5f tr N dp mk (d9 + 1) (tr 11 n9) e9 hC R_5R tj_11 te_12 R_5W hTm R_5z R_18n0 R_18e0 R_18l0 ((by omega)) H) (cwV 3 htu hU_X6_62 rfl rfl rfl (by decide +kernel) ⟨show (2 * fu + 6) + 1 ≤ 2 * fu + 7 by omega, show 8 + (4 + 11) + (60 * fu + 200) ≤ 60 * fu + 230 by omega⟩) hP hK hD hC hpp cw_5 rfl rfl hl.1 rfl (lv_room (Nat.le_of_ble_eq_true rfl)) dX6_runApply_41) hS hD hh hpp (fun r_19 S_20 H locs hw_21 hP hD hS hC hh hs_22 hpp => ?_)
    try dsimp only at hw_21
    have aw_23 : AW [27, 28, 29, 30, 31, 32, 33, 34] [111, 112] S_7 S_20 := hw_21.1
    have aw_23t : AW [27, 28, 29, 30, 31, 32, 33, 34] [111, 112] S S_20 := aw_10t.tr (aw_23.mono (by decide) (by decide))
    have tj_24 : TJ S_20 N := TJ.aw tj_11 aw_23 (by decide)
    obtain ⟨R_18, R_18v, R_18e⟩ : ∃ a b, wmx tr mk al fu R_5 (tr 11 n9) e9 = (a, b) := ⟨_, _, rfl⟩
    have R_18p := wmx_ok hTm mk al fu R_5 (tr 11 n9) e9 R_5W R_5z R_18b0 R_18n0 R_18e0 R_18l0
    rw [R_18e] at R_18p
    obtain ⟨R_18W, R_18X, R_18c, R_18i⟩ := R_18p
    obtain ⟨R_18c1, R_18c2, R_18c3, R_18c4⟩ := R_18c
    dsimp only at R_18W R_18X R_18c1 R_18c2 R_18c3 R_18c4 R_18i
    have hw_21q := hw_21.2
    rw [R_18e] at hw_21q
    obtain ⟨R_18q, R_18b, R_18pl, R_18a⟩ := hw_21q
    dsimp only at R_18q R_18b R_18pl
    have te_25 : TC S_20 tr mk N := te_12.aw aw_23 (by decide)
    refine lv_istore (lv' := [(5, .int r_19), (4, .int (nI R_5v)), (0, .ref (ga G 5)), (1, .int (nI n9)), (2, .int (sgt e9)), (3, .int (nI d9))]) hx hb dX6_runApply_44 hl (by decide) rfl (fun ls hl => ?_)
    refine lv_iload hx hb dX6_runApply_46 (lv_at hl 0 rfl) ?_
    refine lv_if_ge (tgt := 54) hx hb dX6_runApply_48 (by decide) (fun c_26 => ?_) (fun c_26 => ?_)
    · skip
      have R_18z : hlt R_18 = 0 := ans_ge R_18a c_26
      obtain ⟨R_18f, R_18R, R_18f1, R_18f2, R_18K⟩ := R_18q R_18z
      have R_18y : r_19 = nI R_18v := R_18a.trans (ans_go R_18z)
      subst R_18y
      have R_18vi := R_18i R_18z
      have R_18FK : KP S S_20 f9 f9 ws R_18 := KP.trans R_5FK R_18K (by omega) (by omega) R_5XX R_18X
      have R_18XX := R_5XX.tr R_18X
      have hA : R_5v < wnv R_18 := Nat.lt_of_lt_of_le R_5vi R_18X.1
      refine lv_aload_n hx hb dX6_runApply_54 rfl (lv_at hl 2 rfl) ?_
      refine va_get (D := gD G) (ci := 6) (v := .ref (kH S 27)) (C := RX6) (T := TX6) (N := 14) hx hb htu cu_in6 hown hK hP 5 cw_5 rfl 2 (by decide) (htu _ C_152) (fun _ h9 => h9) (c_hv (hh.2 27 (lt35 (by decide)))) dX6_runApply_55 ?_
      refine lv_iload hx hb dX6_runApply_58 (lv_at hl 1 rfl) ?_
      have hC0 := hC
      refine c_ci (c_runV (As := [.int (nI R_5v)]) (rest := []) (q0 := (2 * 27 + 13)) (ci := 0) ⟨hx, hb, hml, hown, htu⟩ (c_getA l G S_20 27 (lt35 (by decide)) hC (kH S 27) (hh.2 27 (lt35 (by decide))) (nI R_5v) H) (cwV 1 htu hU_X6_131 rfl rfl rfl (by decide +kernel) ⟨show 0 + 1 ≤ 2 * fu + 7 by omega, show 8 + (2 + 11) + 0 ≤ 60 * fu + 230 by omega⟩) hP hK hD hC hpp (c_hd (hh.2 27 (lt35 (by decide))) (cw_row (lt35 (by decide)))) rfl rfl hl.1 rfl (lv_room (Nat.le_of_ble_eq_true rfl)) dX6_runApply_60) hS hD hh hpp (fun r_27 S_28 H locs hw_29 hP hD hS hC hh hs_30 hpp => ?_)
      obtain ⟨hu9, hw_29⟩ := hw_29
      have hu9 := hu9.symm
      subst hu9
      obtain rfl : r_27 = nI (vso R_18 R_5v) := hw_29.trans (R_18R.g27 hA)
      refine lv_iconst (v := 2) hx hb dX6_runApply_63 (by decide) ?_
      refine lv_icmp_eq (tgt := 73) hx hb dX6_runApply_64 (by decide) (fun c_31 => ?_) (fun c_31 => ?_)
      · skip
        have hv2 : vso R_18 R_5v = 2 := (nI_eq (b := 2) (by have := (R_18W.1 _ hA).1; omega) (by omega)).mp c_31
        obtain ⟨x1_, x2_, x3_, x4_⟩ := (R_18W.1 _ hA).2.1 hv2
        have x5_ : 0 < prts (tr 0 (vno R_18 R_5v)) (tr 2 (vno R_18 R_5v)) := by rw [x2_]; show 0 < 1; decide
        have x6_ : tr 10 (vno R_18 R_5v) < N ∧ dp (vno R_18 R_5v) + 1 ≤ dp (tr 10 (vno R_18 R_5v)) := (hTm.1 _ x1_).2.2 0 x5_
        refine lv_aload_n hx hb dX6_runApply_73 rfl (lv_at hl 2 rfl) ?_
        refine va_get (D := gD G) (ci := 6) (v := .ref (kH S 28)) (C := RX6) (T := TX6) (N := 14) hx hb htu cu_in6 hown hK hP 5 cw_5 rfl 3 (by decide) (htu _ C_153) (fun _ h9 => h9) (c_hv (hh.2 28 (lt35 (by decide)))) dX6_runApply_74 ?_
        refine lv_iload hx hb dX6_runApply_77 (lv_at hl 1 rfl) ?_
        have hC0 := hC
        refine c_ci (c_runV (As := [.int (nI R_5v)]) (rest := []) (q0 := (2 * 28 + 13)) (ci := 0) ⟨hx, hb, hml, hown, htu⟩ (c_getA l G S_20 28 (lt35 (by decide)) hC (kH S 28) (hh.2 28 (lt35 (by decide))) (nI R_5v) H) (cwV 1 htu hU_X6_131 rfl rfl rfl (by decide +kernel) ⟨show 0 + 1 ≤ 2 * fu + 7 by omega, show 8 + (2 + 11) + 0 ≤ 60 * fu + 230 by omega⟩) hP hK hD hC hpp (c_hd (hh.2 28 (lt35 (by decide))) (cw_row (lt35 (by decide)))) rfl rfl hl.1 rfl (lv_room (Nat.le_of_ble_eq_true rfl)) dX6_runApply_79) hS hD hh hpp (fun r_32 S_33 H locs hw_34 hP hD hS hC hh hs_35 hpp => ?_)
        obtain ⟨hu9, hw_34⟩ := hw_34
        have hu9 := hu9.symm
        subst hu9
        obtain rfl : r_32 = nI (vno R_18 R_5v) := hw_34.trans (R_18R.g28n hA (Or.inl hv2))
        refine lv_istore (lv' := [(6, .int (nI (vno R_18 R_5v))), (5, .int (nI R_18v)), (4, .int (nI R_5v)), (0, .ref (ga G 5)), (1, .int (nI n9)), (2, .int (sgt e9)), (3, .int (nI d9))]) hx hb dX6_runApply_82 hl (by decide) rfl (fun ls hl => ?_)
        refine lv_aload_n hx hb dX6_runApply_84 rfl (lv_at hl 3 rfl) ?_
        refine lv_aload_n hx hb dX6_runApply_85 rfl (lv_at hl 3 rfl) ?_
        refine va_get (D := gD G) (ci := 6) (v := .ref (ga G 1)) (C := RX6) (T := TX6) (N := 14) hx hb htu cu_in6 hown hK hP 5 cw_5 rfl 0 (by decide) (htu _ C_162) (fun _ h9 => h9) rfl dX6_runApply_86 ?_
        refine lv_iload hx hb dX6_runApply_89 (lv_at hl 0 rfl) ?_
        have hC0 := hC
        refine c_ci (c_runV (As := [.int (nI (vno R_18 R_5v))]) (rest := [.ref (ga G 5)]) (q0 := 1) (ci := 3) ⟨hx, hb, hml, hown, htu⟩ (tt_markOf l G S_20 N (nI (vno R_18 R_5v)) hC tj_24.1 H) (cwV 1 htu hU_X6_94 rfl rfl rfl (by decide +kernel) ⟨show 1 + 1 ≤ 2 * fu + 7 by omega, show 8 + (2 + 11) + 21 ≤ 60 * fu + 230 by omega⟩) hP hK hD hC hpp cw_1 rfl rfl hl.1 rfl (lv_room (Nat.le_of_ble_eq_true rfl)) dX6_runApply_91) hS hD hh hpp (fun r_36 S_37 H locs hw_38 hP hD hS hC hh hs_39 hpp => ?_)
        obtain ⟨-, hu9, hw_38⟩ := hw_38
        have hu9 := hu9.symm
        subst hu9
        obtain rfl : r_36 = nI (tr 1 (vno R_18 R_5v)) := hw_38.trans (TC.let te_25 x1_ (Or.inr (Or.inl x2_)))
        refine lv_iload hx hb dX6_runApply_94 (lv_at hl 1 rfl) ?_
        refine lv_bipush (v := (-9)) hx hb dX6_runApply_96 (by decide) ?_
        refine lv_aload_n hx hb dX6_runApply_98 rfl (lv_at hl 3 rfl) ?_
        refine va_get (D := gD G) (ci := 6) (v := .ref (kH S 29)) (C := RX6) (T := TX6) (N := 14) hx hb htu cu_in6 hown hK hP 5 cw_5 rfl 4 (by decide) (htu _ C_154) (fun _ h9 => h9) (c_hv (hh.2 29 (lt35 (by decide)))) dX6_runApply_99 ?_
        refine lv_iload hx hb dX6_runApply_102 (lv_at hl 2 rfl) ?_
        have hC0 := hC
        refine c_ci (c_runV (As := [.int (nI R_5v)]) (rest := [.int ((-9)), .int (nI R_18v), .int (nI (tr 1 (vno R_18 R_5v))), .ref (ga G 5)]) (q0 := (2 * 29 + 13)) (ci := 0) ⟨hx, hb, hml, hown, htu⟩ (c_getA l G S_20 29 (lt35 (by decide)) hC (kH S 29) (hh.2 29 (lt35 (by decide))) (nI R_5v) H) (cwV 1 htu hU_X6_131 rfl rfl rfl (by decide +kernel) ⟨show 0 + 1 ≤ 2 * fu + 7 by omega, show 8 + (2 + 11) + 0 ≤ 60 * fu + 230 by omega⟩) hP hK hD hC hpp (c_hd (hh.2 29 (lt35 (by decide))) (cw_row (lt35 (by decide)))) rfl rfl hl.1 rfl (lv_room (Nat.le_of_ble_eq_true rfl)) dX6_runApply_104) hS hD hh hpp (fun r_40 S_41 H locs hw_42 hP hD hS hC hh hs_43 hpp => ?_)
        obtain ⟨hu9, hw_42⟩ := hw_42
        have hu9 := hu9.symm
        subst hu9
        obtain rfl : r_40 = sgt (vse R_18 R_5v) := hw_42.trans (R_18R.g29 hA hv2)
        have si_44l : ne R_18 + 1 ≤ bgn R_18 := by omega
        have si_44s := R_18R.sz
        have hC0 := hC
        refine c_ci (c_runV (As := [.int (nI (tr 1 (vno R_18 R_5v))), .int (nI R_18v), .int ((-9)), .int (sgt (vse R_18 R_5v))]) (rest := []) (q0 := 5) (ci := 6) ⟨hx, hb, hml, hown, htu⟩ (x_addSight l G S_20 (ne R_18) (nI (tr 1 (vno R_18 R_5v))) (nI R_18v) ((-9)) (sgt (vse R_18 R_5v)) hC R_18R.1.2.2.1.1 R_18R.1.2.2.1.2.1 R_18R.1.2.2.1.2.2.1 R_18R.1.2.2.1.2.2.2 ((by omega)) H) (cwV 4 htu hU_X6_137 rfl rfl rfl (by decide +kernel) ⟨show 3 + 1 ≤ 2 * fu + 7 by omega, show 8 + (5 + 11) + 103 ≤ 60 * fu + 230 by omega⟩) hP hK hD hC hpp cw_5 rfl rfl hl.1 rfl (lv_room (Nat.le_of_ble_eq_true rfl)) dX6_runApply_107) hS hD hh hpp (fun r_45 S_46 H locs hw_47 hP hD hS hC hh hs_48 hpp => ?_)
        try dsimp only at hw_47
        have aw_49 : AW [31, 32, 33, 34] [] S_20 S_46 := hw_47.1
        have aw_49t : AW [27, 28, 29, 30, 31, 32, 33, 34] [111, 112] S S_46 := aw_23t.tr (aw_49.mono (by decide) (by decide))
        have tj_50 : TJ S_46 N := TJ.aw tj_24 aw_49 (by decide)
        have si_44R : RCw S_46 (wme R_18 (tr 1 (vno R_18 R_5v)) R_18v 0 (vse R_18 R_5v)) al R_18f := R_18R.env aw_49 hw_47.2.1 hw_47.2.2.1 si_44l rfl (fun _ => rfl) rfl rfl
        have si_44W : wmW tr N dp (wme R_18 (tr 1 (vno R_18 R_5v)) R_18v 0 (vse R_18 R_5v)) := w_wme R_18W (hTm.2.2 _ x1_ (Or.inr (Or.inl x2_))) x3_ (fun _ => R_18vi) (fun z => absurd rfl z)
        have si_44z : hlt (wme R_18 (tr 1 (vno R_18 R_5v)) R_18v 0 (vse R_18 R_5v)) = 0 := R_18z
        obtain rfl : r_45 = sgt (ne R_18 + 1) := hw_47.2.2.2.trans sgt_s.symm
        have si_44n : ne (wme R_18 (tr 1 (vno R_18 R_5v)) R_18v 0 (vse R_18 R_5v)) = ne R_18 + 1 := rfl
        have si_44v : wnv (wme R_18 (tr 1 (vno R_18 R_5v)) R_18v 0 (vse R_18 R_5v)) = wnv R_18 := rfl
        have si_44b : bgn (wme R_18 (tr 1 (vno R_18 R_5v)) R_18v 0 (vse R_18 R_5v)) = bgn R_18 := rfl
        have si_44E : eln (wme R_18 (tr 1 (vno R_18 R_5v)) R_18v 0 (vse R_18 R_5v)) (ne R_18 + 1) = eln R_18 (vse R_18 R_5v) + 1 := eln_new
        have si_44X : Xt R_18 (wme R_18 (tr 1 (vno R_18 R_5v)) R_18v 0 (vse R_18 R_5v)) := x_wme
        have si_44XX := R_18XX.tr si_44X
        have si_44FK : KP S S_46 f9 f9 ws (wme R_18 (tr 1 (vno R_18 R_5v)) R_18v 0 (vse R_18 R_5v)) := KP.env R_18FK aw_49
        have te_51 : TC S_46 tr mk N := te_25.aw aw_49 (by decide)
        refine lv_istore (lv' := [(7, .int (sgt (ne R_18 + 1))), (6, .int (nI (vno R_18 R_5v))), (5, .int (nI R_18v)), (4, .int (nI R_5v)), (0, .ref (ga G 5)), (1, .int (nI n9)), (2, .int (sgt e9)), (3, .int (nI d9))]) hx hb dX6_runApply_110 hl (by decide) rfl (fun ls hl => ?_)
        refine lv_aload_n hx hb dX6_runApply_112 rfl (lv_at hl 4 rfl) ?_
        refine lv_aload_n hx hb dX6_runApply_113 rfl (lv_at hl 4 rfl) ?_
        refine va_get (D := gD G) (ci := 6) (v := .ref (ga G 1)) (C := RX6) (T := TX6) (N := 14) hx hb htu cu_in6 hown hK hP 5 cw_5 rfl 0 (by decide) (htu _ C_162) (fun _ h9 => h9) rfl dX6_runApply_114 ?_
        refine lv_iload hx hb dX6_runApply_117 (lv_at hl 1 rfl) ?_
        refine lv_iconst (v := 0) hx hb dX6_runApply_119 (by decide) ?_
        have hC0 := hC
        refine c_ci (c_runV (As := [.int (nI (vno R_18 R_5v)), .int 0]) (rest := [.ref (ga G 5)]) (q0 := 1) (ci := 3) ⟨hx, hb, hml, hown, htu⟩ (tt_partOf l G S_46 N (nI (vno R_18 R_5v)) 0 hC tj_50.1 H) (cwV 2 htu hU_X6_134 rfl rfl rfl (by decide +kernel) ⟨show 1 + 1 ≤ 2 * fu + 7 by omega, show 8 + (3 + 11) + 21 ≤ 60 * fu + 230 by omega⟩) hP hK hD hC hpp cw_1 rfl rfl hl.1 rfl (lv_room (Nat.le_of_ble_eq_true rfl)) dX6_runApply_120) hS hD hh hpp (fun r_52 S_53 H locs hw_54 hP hD hS hC hh hs_55 hpp => ?_)
        obtain ⟨-, hu9, hw_54⟩ := hw_54
        have hu9 := hu9.symm
        subst hu9
        obtain rfl : r_52 = nI (tr 10 (vno R_18 R_5v)) := hw_54.trans (TC.part te_51 x1_ (i := 0) x5_)
        refine lv_iload hx hb dX6_runApply_123 (lv_at hl 0 rfl) ?_
        refine lv_iload_n hx hb dX6_runApply_125 rfl (lv_at hl 7 rfl) ?_
        refine lv_iconst (v := 1) hx hb dX6_runApply_126 (by decide) ?_
        refine lv_iadd hx hb dX6_runApply_127 ?_
        refine m_top (y := nI (d9 + 1)) (nI_add d9 1) ?_
        have R_56n0 : tr 10 (vno R_18 R_5v) < N := x6_.1
        have R_56e0 : (ne R_18 + 1) ≤ ne ((wme R_18 (tr 1 (vno R_18 R_5v)) R_18v 0 (vse R_18 R_5v))) := (Nat.le_refl _)
        have R_56l0 : eln ((wme R_18 (tr 1 (vno R_18 R_5v)) R_18v 0 (vse R_18 R_5v))) ((ne R_18 + 1)) ≤ dp (tr 10 (vno R_18 R_5v)) := (by rw [si_44E]; have := x6_.2; omega)
        have R_56b0 : bgn ((wme R_18 (tr 1 (vno R_18 R_5v)) R_18v 0 (vse R_18 R_5v))) ≤ al := si_44R.sz.2.2.1
        have hC0 := hC
        refine c_ci (c_runV (As := [.int (nI (tr 10 (vno R_18 R_5v))), .int (sgt (ne R_18 + 1)), .int (nI (d9 + 1))]) (rest := []) (q0 := 5) (ci := 6) ⟨hx, hb, hml, hown, htu⟩ (ih l G S_46 ((wme R_18 (tr 1 (vno R_18 R_5v)) R_18v 0 (vse R_18 R_5v))) al R_18f tr N dp mk (d9 + 1) (tr 10 (vno R_18 R_5v)) ((ne R_18 + 1)) hC si_44R tj_50 te_51 si_44W hTm si_44z R_56n0 R_56e0 R_56l0 ((by omega)) H) (cwV 3 htu hU_X6_62 rfl rfl rfl (by decide +kernel) ⟨show (2 * fu + 6) + 1 ≤ 2 * fu + 7 by omega, show 8 + (4 + 11) + (60 * fu + 200) ≤ 60 * fu + 230 by omega⟩) hP hK hD hC hpp cw_5 rfl rfl hl.1 rfl (lv_room (Nat.le_of_ble_eq_true rfl)) dX6_runApply_128) hS hD hh hpp (fun r_57 S_58 H locs hw_59 hP hD hS hC hh hs_60 hpp => ?_)
        try dsimp only at hw_59
        have aw_61 : AW [27, 28, 29, 30, 31, 32, 33, 34] [111, 112] S_46 S_58 := hw_59.1
        have aw_61t : AW [27, 28, 29, 30, 31, 32, 33, 34] [111, 112] S S_58 := aw_49t.tr (aw_61.mono (by decide) (by decide))
        have tj_62 : TJ S_58 N := TJ.aw tj_50 aw_61 (by decide)
        have R_56p := wmx_ok hTm mk al fu ((wme R_18 (tr 1 (vno R_18 R_5v)) R_18v 0 (vse R_18 R_5v))) (tr 10 (vno R_18 R_5v)) ((ne R_18 + 1)) si_44W si_44z R_56b0 R_56n0 R_56e0 R_56l0
        have hw_59q := hw_59.2
        exact c_iret (v := r_57) hx hb hr hK hP hD hS hC hh hpp ⟨aw_61t, (by rw [wmApply_3 R_5e R_5z R_18e R_18z, show wmApply3 tr (wmx tr mk al fu) R_18 n9 R_5v R_18v = _ from if_pos hv2]; exact XQ.tailv hw_59q (by omega) (by omega) si_44FK si_44XX R_56p.2.1)⟩ dX6_runApply_131 hlocks
      · skip
        refine lv_aload_n hx hb dX6_runApply_67 rfl (lv_at hl 2 rfl) ?_
        refine lv_iload_n hx hb dX6_runApply_68 rfl (lv_at hl 3 rfl) ?_
        have hC0 := hC
        refine c_ci (c_runV (As := [.int (nI n9)]) (rest := []) (q0 := 5) (ci := 6) ⟨hx, hb, hml, hown, htu⟩ (x_stuckAt l G S_20 (nI n9) hC  H) (cwV 1 htu hU_X6_128 rfl rfl rfl (by decide +kernel) ⟨show 0 + 1 ≤ 2 * fu + 7 by omega, show 8 + (2 + 11) + 0 ≤ 60 * fu + 230 by omega⟩) hP hK hD hC hpp cw_5 rfl rfl hl.1 rfl (lv_room (Nat.le_of_ble_eq_true rfl)) dX6_runApply_69) hS hD hh hpp (fun r_63 S_64 H locs hw_65 hP hD hS hC hh hs_66 hpp => ?_)
        try dsimp only at hw_65
        have aw_67 : AW [] [112] S_20 S_64 := hw_65.1
        have aw_67t : AW [27, 28, 29, 30, 31, 32, 33, 34] [111, 112] S S_64 := aw_23t.tr (aw_67.mono (by decide) (by decide))
        have tj_68 : TJ S_64 N := TJ.aw tj_24 aw_67 (by decide)
        exact c_iret (v := r_63) hx hb hr hK hP hD hS hC hh hpp ⟨aw_67t, (by rw [wmApply_3 R_5e R_5z R_18e R_18z, show wmApply3 tr (wmx tr mk al fu) R_18 n9 R_5v R_18v = wmh R_18 1 n9 from if_neg (fun h => c_31 (by rw [h]; rfl))]; exact XQ.haltv ((aw_67.1 111 (by decide)).trans R_18R.1.2.2.2.2.1) hw_65.2.2 hw_65.2.1)⟩ dX6_runApply_72 hlocks
    · skip
      refine lv_iload hx hb dX6_runApply_51 (lv_at hl 0 rfl) ?_
      exact c_iret (v := r_19) hx hb hr hK hP hD hS hC hh hpp ⟨aw_23t, (by rw [wmApply_2 R_5e R_5z R_18e (ans_lt R_18a (fun z => by have h1 := R_18i z; have h2 := (R_18q z).choose_spec.1.sz; omega) c_26)]; exact XQ.stopv R_18b R_18pl R_18a (ans_lt R_18a (fun z => by have h1 := R_18i z; have h2 := (R_18q z).choose_spec.1.sz; omega) c_26))⟩ dX6_runApply_53 hlocks
  · skip
    refine lv_iload hx hb dX6_runApply_24 (lv_at hl 0 rfl) ?_
    exact c_iret (v := r_6) hx hb hr hK hP hD hS hC hh hpp ⟨aw_10t, (by rw [wmApply_1 R_5e (ans_lt R_5a (fun z => by have h1 := R_5i z; have h2 := (R_5q z).choose_spec.1.sz; omega) c_13)]; exact XQ.stopv R_5b R_5pl R_5a (ans_lt R_5a (fun z => by have h1 := R_5i z; have h2 := (R_5q z).choose_spec.1.sz; omega) c_13))⟩ dX6_runApply_26 hlocks

set_option maxHeartbeats 4000000 in
set_option maxRecDepth 100000 in
/-- runName -/
theorem x_runName (l : Launch) (G : cG) (S : cS) (fu : Nat) (ws : wmS) (al : Nat) (f9 : Nat) (tr : aM) (N : Nat) (dp : Nat → Nat) (mk : Nat → Int32) (d9 : Nat) (n9 : Nat) (e9 : Nat) (hC : CL S) (ih : xRunAt fu) (hR : RCw S ws al f9) (hT : TJ S N) (hE : TC S tr mk N) (hWf : wmW tr N dp ws) (hTm : wmT tr N dp) (h0 : hlt ws = 0) (hn : n9 < N) (he : e9 ≤ ne ws) (hel : eln ws e9 ≤ dp n9) (hd : d9 + (fu + 1) = 61) (hc : wnv ws + 1 ≤ bgn ws ∧ ne ws + 1 ≤ bgn ws ∧ f9 + 6 ≤ 6 * bgn ws) (hk : tr 0 n9 = 2) (Hs : Heap) : Met l yX6_runName (wC yX6_runName cX6_runName 6 (some .int)) (cRm S (2 * fu + 7) (60 * fu + 230)) (cPc G S Hs [.ref (ga G 5), .int (nI n9), .int (sgt e9), .int (nI d9)]) (cQi G S Hs (fun v u => AW [27, 28, 29, 30, 31, 32, 33, 34] [111, 112] S u ∧ (XQ S u al f9 1 ws (wmName tr (wmx tr mk al fu) ws n9 e9) v))) (CC - PT S) (12 * (CC - PT S)) (cA G S Hs.size) := by
  refine Met.ofW (cc := cX6_runName) (maxL := 6) (ret := (some .int)) (by decide) rfl ?_
  intro p e s m args below meth c s₁ B hml hv
  obtain ⟨rfl, hsz, hP, hK, hD0, -⟩ := hv
  have hx := B.exec
  have hb := B.bytes
  have hr := B.returns
  have htu : ∀ w ∈ CU, w.before _ s = true := fun w h => atoms_spec (ws := (wC yX6_runName cX6_runName 6 (some .int))) B.pre w (List.mem_cons_of_mem _ h)
  have hown : s.vm.findClass RX6 = some m.cls := findClass_of_methodNamed B.named
  have hlocks := B.notSynchronized
  subst hsz
  have hD : cD (cA G S s.heap.size) G S := cD_self hD0
  have hl := lv_entry ([.ref (ga G 5), .int (nI n9), .int (sgt e9), .int (nI d9)]) (n := 6) (Nat.le_of_ble_eq_true rfl)
  rw [lg_entry_eq]
  generalize (lg_sl ([.ref (ga G 5), .int (nI n9), .int (sgt e9), .int (nI d9)]) ++ List.replicate (6 - (lg_sl ([.ref (ga G 5), .int (nI n9), .int (sgt e9), .int (nI d9)])).length) Slot.unset).toArray = ls at hl ⊢
  have hl : lv_has ls 6 [(0, .ref (ga G 5)), (1, .int (nI n9)), (2, .int (sgt e9)), (3, .int (nI d9))] := hl
  obtain ⟨H, hHe⟩ : ∃ H : Heap, H = s.heap := ⟨_, rfl⟩
  rw [← hHe] at hP
  have hS : va_S (cA G S s.heap.size) s.heap H [] := by rw [hHe]; exact va_S.rf
  have hh : HS S S := HS.rf
  have hpp : PT S ≤ PT S := Nat.le_refl _
  have hB9 := hC.1
  refine W.heq hHe ?_
  refine c_ent (S := S) ?_
  obtain ⟨hc1, hc2, hc3⟩ := id hc
  refine lv_aload_n hx hb dX6_runName_0 rfl (lv_at hl 0 rfl) ?_
  refine lv_aload_n hx hb dX6_runName_1 rfl (lv_at hl 0 rfl) ?_
  refine va_get (D := gD G) (ci := 6) (v := .ref (ga G 1)) (C := RX6) (T := TX6) (N := 14) hx hb htu cu_in6 hown hK hP 5 cw_5 rfl 0 (by decide) (htu _ C_162) (fun _ h9 => h9) rfl dX6_runName_2 ?_
  refine lv_iload_n hx hb dX6_runName_5 rfl (lv_at hl 1 rfl) ?_
  have hC0 := hC
  refine c_ci (c_runV (As := [.int (nI n9)]) (rest := [.ref (ga G 5)]) (q0 := 1) (ci := 3) ⟨hx, hb, hml, hown, htu⟩ (tt_markOf l G S N (nI n9) hC hT.1 H) (cwV 1 htu hU_X6_94 rfl rfl rfl (by decide +kernel) ⟨show 1 + 1 ≤ 2 * fu + 7 by omega, show 8 + (2 + 11) + 21 ≤ 60 * fu + 230 by omega⟩) hP hK hD hC hpp cw_1 rfl rfl hl.1 rfl (lv_room (Nat.le_of_ble_eq_true rfl)) dX6_runName_6) hS hD hh hpp (fun r_1 S_2 H locs hw_3 hP hD hS hC hh hs_4 hpp => ?_)
  obtain ⟨-, hu9, hw_3⟩ := hw_3
  have hu9 := hu9.symm
  subst hu9
  obtain rfl : r_1 = nI (tr 1 n9) := hw_3.trans (TC.let hE hn (Or.inl hk))
  refine lv_iload_n hx hb dX6_runName_9 rfl (lv_at hl 2 rfl) ?_
  have hC0 := hC
  refine c_ci (c_runV (As := [.int (nI (tr 1 n9)), .int (sgt e9)]) (rest := []) (q0 := 5) (ci := 6) ⟨hx, hb, hml, hown, htu⟩ (x_seenBy l G S ws al f9 tr N dp (tr 1 n9) e9 hC hR hWf ((hTm.2.2 n9 hn (Or.inl hk))) he H) (cwV 2 htu hU_X6_124 rfl rfl rfl (by decide +kernel) ⟨show 1 + 1 ≤ 2 * fu + 7 by omega, show 8 + (5 + 11) + 21 ≤ 60 * fu + 230 by omega⟩) hP hK hD hC hpp cw_5 rfl rfl hl.1 rfl (lv_room (Nat.le_of_ble_eq_true rfl)) dX6_runName_10) hS hD hh hpp (fun r_5 S_6 H locs hw_7 hP hD hS hC hh hs_8 hpp => ?_)
  obtain ⟨-, hu9, hw_7⟩ := hw_7
  have hu9 := hu9.symm
  subst hu9
  have hkk := wmk_ok hWf (tr 1 n9) 120 e9 he
  obtain ⟨k9, hk9⟩ : ∃ k9, wmk ws (tr 1 n9) 120 e9 = k9 := ⟨_, rfl⟩
  rw [hk9] at hkk
  obtain rfl : r_5 = sgt k9 := hw_7.trans (congrArg sgt hk9)
  have hsz := hR.sz
  refine lv_istore (lv' := [(4, .int (sgt k9)), (0, .ref (ga G 5)), (1, .int (nI n9)), (2, .int (sgt e9)), (3, .int (nI d9))]) hx hb dX6_runName_13 hl (by decide) rfl (fun ls hl => ?_)
  refine lv_iload hx hb dX6_runName_15 (lv_at hl 0 rfl) ?_
  refine lv_bipush (v := (-9)) hx hb dX6_runName_17 (by decide) ?_
  refine lv_icmp_ne (tgt := 28) hx hb dX6_runName_19 (by decide) (fun c_9 => ?_) (fun c_9 => ?_)
  · skip
    have hk0 : k9 ≠ 0 := fun z => c_9 ((sgt_9 (by omega)).mpr z)
    obtain ⟨z1, z2, z3⟩ := hkk.resolve_left hk0
    have hE9 := hWf.2 (k9 - 1) (by omega)
    have hNN := hE.1.1
    obtain ⟨r9, hr9⟩ : ∃ r9, ere ws (k9 - 1) = r9 := ⟨_, rfl⟩
    have hr1 : r9 < 1000 := Nat.lt_of_not_le (fun h => by have := (hE9.2.2.2.1 (by omega)).1; omega)
    refine lv_aload_n hx hb dX6_runName_28 rfl (lv_at hl 1 rfl) ?_
    refine va_get (D := gD G) (ci := 6) (v := .ref (kH S 33)) (C := RX6) (T := TX6) (N := 14) hx hb htu cu_in6 hown hK hP 5 cw_5 rfl 8 (by decide) (htu _ C_158) (fun _ h9 => h9) rfl dX6_runName_29 ?_
    refine lv_iload hx hb dX6_runName_32 (lv_at hl 0 rfl) ?_
    have hC0 := hC
    refine c_ci (c_runV (As := [.int (sgt k9)]) (rest := []) (q0 := (2 * 33 + 13)) (ci := 0) ⟨hx, hb, hml, hown, htu⟩ (c_getA l G S 33 (lt35 (by decide)) hC (kH S 33) rfl (sgt k9) H) (cwV 1 htu hU_X6_131 rfl rfl rfl (by decide +kernel) ⟨show 0 + 1 ≤ 2 * fu + 7 by omega, show 8 + (2 + 11) + 0 ≤ 60 * fu + 230 by omega⟩) hP hK hD hC hpp (c_hd rfl (cw_row (lt35 (by decide)))) rfl rfl hl.1 rfl (lv_room (Nat.le_of_ble_eq_true rfl)) dX6_runName_34) hS hD hh hpp (fun r_10 S_11 H locs hw_12 hP hD hS hC hh hs_13 hpp => ?_)
    obtain ⟨hu9, hw_12⟩ := hw_12
    have hu9 := hu9.symm
    subst hu9
    obtain rfl : r_10 = sgt r9 := hw_12.trans (by rw [sgt_p hk0, ← hr9]; exact hR.g33 (by omega))
    refine lv_istore (lv' := [(5, .int (sgt r9)), (4, .int (sgt k9)), (0, .ref (ga G 5)), (1, .int (nI n9)), (2, .int (sgt e9)), (3, .int (nI d9))]) hx hb dX6_runName_37 hl (by decide) rfl (fun ls hl => ?_)
    refine lv_iload hx hb dX6_runName_39 (lv_at hl 0 rfl) ?_
    refine lv_bipush (v := (-9)) hx hb dX6_runName_41 (by decide) ?_
    refine lv_icmp_ne (tgt := 56) hx hb dX6_runName_43 (by decide) (fun c_14 => ?_) (fun c_14 => ?_)
    · skip
      have hr0 : r9 ≠ 0 := fun z => c_14 ((sgt_9 hr1).mpr z)
      obtain ⟨q9, rfl⟩ : ∃ q9, r9 = q9 + 1 := ⟨r9 - 1, by omega⟩
      rw [sgt_s] at hl
      obtain ⟨x1_, x2_, x3_⟩ := hE9.2.2.2.1 (by omega)
      rw [hr9, Nat.add_sub_cancel] at x1_ x2_ x3_
      have x5_ : 0 < prts (tr 0 q9) (tr 2 q9) := by rw [x2_]; show 0 < 2; decide
      have x6_ : tr 10 q9 < N ∧ dp q9 + 1 ≤ dp (tr 10 q9) := (hTm.1 _ x1_).2.2 0 x5_
      have x7_ : eln ws k9 = ws.1 9 (k9 - 1) := if_neg hk0
      refine lv_aload_n hx hb dX6_runName_56 rfl (lv_at hl 2 rfl) ?_
      refine lv_aload_n hx hb dX6_runName_57 rfl (lv_at hl 2 rfl) ?_
      refine va_get (D := gD G) (ci := 6) (v := .ref (ga G 1)) (C := RX6) (T := TX6) (N := 14) hx hb htu cu_in6 hown hK hP 5 cw_5 rfl 0 (by decide) (htu _ C_162) (fun _ h9 => h9) rfl dX6_runName_58 ?_
      refine lv_iload hx hb dX6_runName_61 (lv_at hl 0 rfl) ?_
      refine lv_iconst (v := 0) hx hb dX6_runName_63 (by decide) ?_
      have hC0 := hC
      refine c_ci (c_runV (As := [.int (nI q9), .int 0]) (rest := [.ref (ga G 5)]) (q0 := 1) (ci := 3) ⟨hx, hb, hml, hown, htu⟩ (tt_partOf l G S N (nI q9) 0 hC hT.1 H) (cwV 2 htu hU_X6_134 rfl rfl rfl (by decide +kernel) ⟨show 1 + 1 ≤ 2 * fu + 7 by omega, show 8 + (3 + 11) + 21 ≤ 60 * fu + 230 by omega⟩) hP hK hD hC hpp cw_1 rfl rfl hl.1 rfl (lv_room (Nat.le_of_ble_eq_true rfl)) dX6_runName_64) hS hD hh hpp (fun r_15 S_16 H locs hw_17 hP hD hS hC hh hs_18 hpp => ?_)
      obtain ⟨-, hu9, hw_17⟩ := hw_17
      have hu9 := hu9.symm
      subst hu9
      obtain rfl : r_15 = nI (tr 10 q9) := hw_17.trans (TC.part hE x1_ (i := 0) x5_)
      refine lv_iload hx hb dX6_runName_67 (lv_at hl 1 rfl) ?_
      refine lv_iload_n hx hb dX6_runName_69 rfl (lv_at hl 5 rfl) ?_
      refine lv_iconst (v := 1) hx hb dX6_runName_70 (by decide) ?_
      refine lv_iadd hx hb dX6_runName_71 ?_
      refine m_top (y := nI (d9 + 1)) (nI_add d9 1) ?_
      have R_19n0 : tr 10 q9 < N := x6_.1
      have R_19e0 : k9 ≤ ne ws := z2
      have R_19l0 : eln ws k9 ≤ dp (tr 10 q9) := (by rw [x7_]; omega)
      have R_19b0 : bgn ws ≤ al := hR.sz.2.2.1
      have hC0 := hC
      refine c_ci (c_runV (As := [.int (nI (tr 10 q9)), .int (sgt k9), .int (nI (d9 + 1))]) (rest := []) (q0 := 5) (ci := 6) ⟨hx, hb, hml, hown, htu⟩ (ih l G S ws al f9 tr N dp mk (d9 + 1) (tr 10 q9) k9 hC hR hT hE hWf hTm h0 R_19n0 R_19e0 R_19l0 ((by omega)) H) (cwV 3 htu hU_X6_62 rfl rfl rfl (by decide +kernel) ⟨show (2 * fu + 6) + 1 ≤ 2 * fu + 7 by omega, show 8 + (4 + 11) + (60 * fu + 200) ≤ 60 * fu + 230 by omega⟩) hP hK hD hC hpp cw_5 rfl rfl hl.1 rfl (lv_room (Nat.le_of_ble_eq_true rfl)) dX6_runName_72) hS hD hh hpp (fun r_20 S_21 H locs hw_22 hP hD hS hC hh hs_23 hpp => ?_)
      try dsimp only at hw_22
      have aw_24 : AW [27, 28, 29, 30, 31, 32, 33, 34] [111, 112] S S_21 := hw_22.1
      have aw_24t : AW [27, 28, 29, 30, 31, 32, 33, 34] [111, 112] S S_21 := AW.rf.tr (aw_24.mono (by decide) (by decide))
      have tj_25 : TJ S_21 N := TJ.aw hT aw_24 (by decide)
      have R_19p := wmx_ok hTm mk al fu ws (tr 10 q9) k9 hWf h0 R_19b0 R_19n0 R_19e0 R_19l0
      have hw_22q := hw_22.2
      exact c_iret (v := r_20) hx hb hr hK hP hD hS hC hh hpp ⟨aw_24t, (by rw [show wmName tr (wmx tr mk al fu) ws n9 e9 = (wmx tr mk al fu) ws (tr 10 q9) k9 from by (unfold wmName; rw [hk9, if_neg hk0, hr9, if_neg (Nat.succ_ne_zero q9), Nat.add_sub_cancel])]; exact XQ.tailv hw_22q (by omega) (by omega) KP.rf (Xt.rf (s := ws)) R_19p.2.1)⟩ dX6_runName_75 hlocks
    · skip
      refine lv_aload_n hx hb dX6_runName_46 rfl (lv_at hl 2 rfl) ?_
      refine va_get (D := gD G) (ci := 6) (v := .ref (kH S 32)) (C := RX6) (T := TX6) (N := 14) hx hb htu cu_in6 hown hK hP 5 cw_5 rfl 7 (by decide) (htu _ C_157) (fun _ h9 => h9) rfl dX6_runName_47 ?_
      refine lv_iload hx hb dX6_runName_50 (lv_at hl 1 rfl) ?_
      have hC0 := hC
      refine c_ci (c_runV (As := [.int (sgt k9)]) (rest := []) (q0 := (2 * 32 + 13)) (ci := 0) ⟨hx, hb, hml, hown, htu⟩ (c_getA l G S 32 (lt35 (by decide)) hC (kH S 32) rfl (sgt k9) H) (cwV 1 htu hU_X6_131 rfl rfl rfl (by decide +kernel) ⟨show 0 + 1 ≤ 2 * fu + 7 by omega, show 8 + (2 + 11) + 0 ≤ 60 * fu + 230 by omega⟩) hP hK hD hC hpp (c_hd rfl (cw_row (lt35 (by decide)))) rfl rfl hl.1 rfl (lv_room (Nat.le_of_ble_eq_true rfl)) dX6_runName_52) hS hD hh hpp (fun r_26 S_27 H locs hw_28 hP hD hS hC hh hs_29 hpp => ?_)
      obtain ⟨hu9, hw_28⟩ := hw_28
      have hu9 := hu9.symm
      subst hu9
      obtain rfl : r_26 = nI (eva ws (k9 - 1)) := hw_28.trans (by rw [sgt_p hk0]; exact hR.g32 (by omega) (hr9.trans ((sgt_9 hr1).mp c_14)))
      exact c_iret (v := nI (eva ws (k9 - 1))) hx hb hr hK hP hD hS hC hh hpp ⟨AW.rf, (by rw [show wmName tr (wmx tr mk al fu) ws n9 e9 = (ws, eva ws (k9 - 1)) from by (unfold wmName; rw [hk9, if_neg hk0, hr9, if_pos ((sgt_9 hr1).mp c_14)])]; exact XQ.was hR h0 (Nat.le_refl _) (by omega) KP.rf rfl)⟩ dX6_runName_55 hlocks
  · skip
    refine lv_aload_n hx hb dX6_runName_22 rfl (lv_at hl 1 rfl) ?_
    refine lv_iload_n hx hb dX6_runName_23 rfl (lv_at hl 2 rfl) ?_
    have hC0 := hC
    refine c_ci (c_runV (As := [.int (nI n9)]) (rest := []) (q0 := 5) (ci := 6) ⟨hx, hb, hml, hown, htu⟩ (x_stuckAt l G S (nI n9) hC  H) (cwV 1 htu hU_X6_128 rfl rfl rfl (by decide +kernel) ⟨show 0 + 1 ≤ 2 * fu + 7 by omega, show 8 + (2 + 11) + 0 ≤ 60 * fu + 230 by omega⟩) hP hK hD hC hpp cw_5 rfl rfl hl.1 rfl (lv_room (Nat.le_of_ble_eq_true rfl)) dX6_runName_24) hS hD hh hpp (fun r_30 S_31 H locs hw_32 hP hD hS hC hh hs_33 hpp => ?_)
    try dsimp only at hw_32
    have aw_34 : AW [] [112] S S_31 := hw_32.1
    have aw_34t : AW [27, 28, 29, 30, 31, 32, 33, 34] [111, 112] S S_31 := AW.rf.tr (aw_34.mono (by decide) (by decide))
    have tj_35 : TJ S_31 N := TJ.aw hT aw_34 (by decide)
    exact c_iret (v := r_30) hx hb hr hK hP hD hS hC hh hpp ⟨aw_34t, (by rw [show wmName tr (wmx tr mk al fu) ws n9 e9 = wmh ws 1 n9 from if_pos (hk9.trans ((sgt_9 (by have := hR.sz; omega)).mp c_9))]; exact XQ.haltv ((aw_34.1 111 (by decide)).trans hR.1.2.2.2.2.1) hw_32.2.2 hw_32.2.1)⟩ dX6_runName_27 hlocks

set_option maxHeartbeats 4000000 in
set_option maxRecDepth 100000 in
/-- runLet -/
theorem x_runLet (l : Launch) (G : cG) (S : cS) (fu : Nat) (ws : wmS) (al : Nat) (f9 : Nat) (tr : aM) (N : Nat) (dp : Nat → Nat) (mk : Nat → Int32) (d9 : Nat) (n9 : Nat) (e9 : Nat) (hC : CL S) (ih : xRunAt fu) (hR : RCw S ws al f9) (hT : TJ S N) (hE : TC S tr mk N) (hWf : wmW tr N dp ws) (hTm : wmT tr N dp) (h0 : hlt ws = 0) (hn : n9 < N) (he : e9 ≤ ne ws) (hel : eln ws e9 ≤ dp n9) (hd : d9 + (fu + 1) = 61) (hc : wnv ws + 1 ≤ bgn ws ∧ ne ws + 1 ≤ bgn ws ∧ f9 + 6 ≤ 6 * bgn ws) (hk : tr 0 n9 = 7) (Hs : Heap) : Met l yX6_runLet (wC yX6_runLet cX6_runLet 5 (some .int)) (cRm S (2 * fu + 7) (60 * fu + 230)) (cPc G S Hs [.ref (ga G 5), .int (nI n9), .int (sgt e9), .int (nI d9)]) (cQi G S Hs (fun v u => AW [27, 28, 29, 30, 31, 32, 33, 34] [111, 112] S u ∧ (XQ S u al f9 1 ws (wmLet tr (wmx tr mk al fu) ws n9 e9) v))) (CC - PT S) (12 * (CC - PT S)) (cA G S Hs.size) := by
  refine Met.ofW (cc := cX6_runLet) (maxL := 5) (ret := (some .int)) (by decide) rfl ?_
  intro p e s m args below meth c s₁ B hml hv
  obtain ⟨rfl, hsz, hP, hK, hD0, -⟩ := hv
  have hx := B.exec
  have hb := B.bytes
  have hr := B.returns
  have htu : ∀ w ∈ CU, w.before _ s = true := fun w h => atoms_spec (ws := (wC yX6_runLet cX6_runLet 5 (some .int))) B.pre w (List.mem_cons_of_mem _ h)
  have hown : s.vm.findClass RX6 = some m.cls := findClass_of_methodNamed B.named
  have hlocks := B.notSynchronized
  subst hsz
  have hD : cD (cA G S s.heap.size) G S := cD_self hD0
  have hl := lv_entry ([.ref (ga G 5), .int (nI n9), .int (sgt e9), .int (nI d9)]) (n := 5) (Nat.le_of_ble_eq_true rfl)
  rw [lg_entry_eq]
  generalize (lg_sl ([.ref (ga G 5), .int (nI n9), .int (sgt e9), .int (nI d9)]) ++ List.replicate (5 - (lg_sl ([.ref (ga G 5), .int (nI n9), .int (sgt e9), .int (nI d9)])).length) Slot.unset).toArray = ls at hl ⊢
  have hl : lv_has ls 5 [(0, .ref (ga G 5)), (1, .int (nI n9)), (2, .int (sgt e9)), (3, .int (nI d9))] := hl
  obtain ⟨H, hHe⟩ : ∃ H : Heap, H = s.heap := ⟨_, rfl⟩
  rw [← hHe] at hP
  have hS : va_S (cA G S s.heap.size) s.heap H [] := by rw [hHe]; exact va_S.rf
  have hh : HS S S := HS.rf
  have hpp : PT S ≤ PT S := Nat.le_refl _
  have hB9 := hC.1
  refine W.heq hHe ?_
  refine c_ent (S := S) ?_
  obtain ⟨hc1, hc2, hc3⟩ := id hc
  have hp9 : prts (tr 0 n9) (tr 2 n9) = 2 := by rw [hk]; rfl
  have hch0 : tr 10 n9 < N ∧ dp n9 + 1 ≤ dp (tr 10 n9) := (hTm.1 n9 hn).2.2 0 (by rw [hp9]; decide)
  have hch1 : tr 11 n9 < N ∧ dp n9 + 1 ≤ dp (tr 11 n9) := (hTm.1 n9 hn).2.2 1 (by rw [hp9]; decide)
  refine lv_aload_n hx hb dX6_runLet_0 rfl (lv_at hl 0 rfl) ?_
  refine lv_aload_n hx hb dX6_runLet_1 rfl (lv_at hl 0 rfl) ?_
  refine va_get (D := gD G) (ci := 6) (v := .ref (ga G 1)) (C := RX6) (T := TX6) (N := 14) hx hb htu cu_in6 hown hK hP 5 cw_5 rfl 0 (by decide) (htu _ C_162) (fun _ h9 => h9) rfl dX6_runLet_2 ?_
  refine lv_iload_n hx hb dX6_runLet_5 rfl (lv_at hl 1 rfl) ?_
  refine lv_iconst (v := 0) hx hb dX6_runLet_6 (by decide) ?_
  have hC0 := hC
  refine c_ci (c_runV (As := [.int (nI n9), .int 0]) (rest := [.ref (ga G 5)]) (q0 := 1) (ci := 3) ⟨hx, hb, hml, hown, htu⟩ (tt_partOf l G S N (nI n9) 0 hC hT.1 H) (cwV 2 htu hU_X6_134 rfl rfl rfl (by decide +kernel) ⟨show 1 + 1 ≤ 2 * fu + 7 by omega, show 8 + (3 + 11) + 21 ≤ 60 * fu + 230 by omega⟩) hP hK hD hC hpp cw_1 rfl rfl hl.1 rfl (lv_room (Nat.le_of_ble_eq_true rfl)) dX6_runLet_7) hS hD hh hpp (fun r_1 S_2 H locs hw_3 hP hD hS hC hh hs_4 hpp => ?_)
  obtain ⟨-, hu9, hw_3⟩ := hw_3
  have hu9 := hu9.symm
  subst hu9
  obtain rfl : r_1 = nI (tr 10 n9) := hw_3.trans (TC.part hE hn (i := 0) (by rw [hp9]; decide))
  refine lv_iload_n hx hb dX6_runLet_10 rfl (lv_at hl 2 rfl) ?_
  refine lv_iload_n hx hb dX6_runLet_11 rfl (lv_at hl 3 rfl) ?_
  refine lv_iconst (v := 1) hx hb dX6_runLet_12 (by decide) ?_
  refine lv_iadd hx hb dX6_runLet_13 ?_
  refine m_top (y := nI (d9 + 1)) (nI_add d9 1) ?_
  have R_5n0 : tr 10 n9 < N := hch0.1
  have R_5e0 : e9 ≤ ne ws := (Nat.le_trans he (Xt.rf (s := ws)).2.1)
  have R_5l0 : eln ws e9 ≤ dp (tr 10 n9) := (by rw [(Xt.rf (s := ws)).eln he]; have := hch0.2; omega)
  have R_5b0 : bgn ws ≤ al := hR.sz.2.2.1
  have hC0 := hC
  refine c_ci (c_runV (As := [.int (nI (tr 10 n9)), .int (sgt e9), .int (nI (d9 + 1))]) (rest := []) (q0 := 5) (ci := 6) ⟨hx, hb, hml, hown, htu⟩ (ih l G S ws al f9 tr N dp mk (d9 + 1) (tr 10 n9) e9 hC hR hT hE hWf hTm h0 R_5n0 R_5e0 R_5l0 ((by omega)) H) (cwV 3 htu hU_X6_62 rfl rfl rfl (by decide +kernel) ⟨show (2 * fu + 6) + 1 ≤ 2 * fu + 7 by omega, show 8 + (4 + 11) + (60 * fu + 200) ≤ 60 * fu + 230 by omega⟩) hP hK hD hC hpp cw_5 rfl rfl hl.1 rfl (lv_room (Nat.le_of_ble_eq_true rfl)) dX6_runLet_14) hS hD hh hpp (fun r_6 S_7 H locs hw_8 hP hD hS hC hh hs_9 hpp => ?_)
  try dsimp only at hw_8
  have aw_10 : AW [27, 28, 29, 30, 31, 32, 33, 34] [111, 112] S S_7 := hw_8.1
  have aw_10t : AW [27, 28, 29, 30, 31, 32, 33, 34] [111, 112] S S_7 := AW.rf.tr (aw_10.mono (by decide) (by decide))
  have tj_11 : TJ S_7 N := TJ.aw hT aw_10 (by decide)
  obtain ⟨R_5, R_5v, R_5e⟩ : ∃ a b, wmx tr mk al fu ws (tr 10 n9) e9 = (a, b) := ⟨_, _, rfl⟩
  have R_5p := wmx_ok hTm mk al fu ws (tr 10 n9) e9 hWf h0 R_5b0 R_5n0 R_5e0 R_5l0
  rw [R_5e] at R_5p
  obtain ⟨R_5W, R_5X, R_5c, R_5i⟩ := R_5p
  obtain ⟨R_5c1, R_5c2, R_5c3, R_5c4⟩ := R_5c
  dsimp only at R_5W R_5X R_5c1 R_5c2 R_5c3 R_5c4 R_5i
  have hw_8q := hw_8.2
  rw [R_5e] at hw_8q
  obtain ⟨R_5q, R_5b, R_5pl, R_5a⟩ := hw_8q
  dsimp only at R_5q R_5b R_5pl
  have te_12 : TC S_7 tr mk N := hE.aw aw_10 (by decide)
  refine lv_istore (lv' := [(4, .int r_6), (0, .ref (ga G 5)), (1, .int (nI n9)), (2, .int (sgt e9)), (3, .int (nI d9))]) hx hb dX6_runLet_17 hl (by decide) rfl (fun ls hl => ?_)
  refine lv_iload hx hb dX6_runLet_19 (lv_at hl 0 rfl) ?_
  refine lv_if_ge (tgt := 27) hx hb dX6_runLet_21 (by decide) (fun c_13 => ?_) (fun c_13 => ?_)
  · skip
    have R_5z : hlt R_5 = 0 := ans_ge R_5a c_13
    obtain ⟨R_5f, R_5R, R_5f1, R_5f2, R_5K⟩ := R_5q R_5z
    have R_5y : r_6 = nI R_5v := R_5a.trans (ans_go R_5z)
    subst R_5y
    have R_5vi := R_5i R_5z
    have R_5FK : KP S S_7 f9 f9 ws R_5 := KP.trans KP.rf R_5K (by omega) (by omega) (Xt.rf (s := ws)) R_5X
    have R_5XX := (Xt.rf (s := ws)).tr R_5X
    refine lv_aload_n hx hb dX6_runLet_27 rfl (lv_at hl 1 rfl) ?_
    refine lv_aload_n hx hb dX6_runLet_28 rfl (lv_at hl 1 rfl) ?_
    refine va_get (D := gD G) (ci := 6) (v := .ref (ga G 1)) (C := RX6) (T := TX6) (N := 14) hx hb htu cu_in6 hown hK hP 5 cw_5 rfl 0 (by decide) (htu _ C_162) (fun _ h9 => h9) rfl dX6_runLet_29 ?_
    refine lv_iload_n hx hb dX6_runLet_32 rfl (lv_at hl 2 rfl) ?_
    refine lv_iconst (v := 1) hx hb dX6_runLet_33 (by decide) ?_
    have hC0 := hC
    refine c_ci (c_runV (As := [.int (nI n9), .int 1]) (rest := [.ref (ga G 5)]) (q0 := 1) (ci := 3) ⟨hx, hb, hml, hown, htu⟩ (tt_partOf l G S_7 N (nI n9) 1 hC tj_11.1 H) (cwV 2 htu hU_X6_134 rfl rfl rfl (by decide +kernel) ⟨show 1 + 1 ≤ 2 * fu + 7 by omega, show 8 + (3 + 11) + 21 ≤ 60 * fu + 230 by omega⟩) hP hK hD hC hpp cw_1 rfl rfl hl.1 rfl (lv_room (Nat.le_of_ble_eq_true rfl)) dX6_runLet_34) hS hD hh hpp (fun r_14 S_15 H locs hw_16 hP hD hS hC hh hs_17 hpp => ?_)
    obtain ⟨-, hu9, hw_16⟩ := hw_16
    have hu9 := hu9.symm
    subst hu9
    obtain rfl : r_14 = nI (tr 11 n9) := hw_16.trans (TC.part te_12 hn (i := 1) (by rw [hp9]; decide))
    refine lv_aload_n hx hb dX6_runLet_37 rfl (lv_at hl 1 rfl) ?_
    refine lv_aload_n hx hb dX6_runLet_38 rfl (lv_at hl 1 rfl) ?_
    refine va_get (D := gD G) (ci := 6) (v := .ref (ga G 1)) (C := RX6) (T := TX6) (N := 14) hx hb htu cu_in6 hown hK hP 5 cw_5 rfl 0 (by decide) (htu _ C_162) (fun _ h9 => h9) rfl dX6_runLet_39 ?_
    refine lv_iload_n hx hb dX6_runLet_42 rfl (lv_at hl 2 rfl) ?_
    have hC0 := hC
    refine c_ci (c_runV (As := [.int (nI n9)]) (rest := [.ref (ga G 5), .int (nI (tr 11 n9)), .ref (ga G 5)]) (q0 := 1) (ci := 3) ⟨hx, hb, hml, hown, htu⟩ (tt_markOf l G S_7 N (nI n9) hC tj_11.1 H) (cwV 1 htu hU_X6_94 rfl rfl rfl (by decide +kernel) ⟨show 1 + 1 ≤ 2 * fu + 7 by omega, show 8 + (2 + 11) + 21 ≤ 60 * fu + 230 by omega⟩) hP hK hD hC hpp cw_1 rfl rfl hl.1 rfl (lv_room (Nat.le_of_ble_eq_true rfl)) dX6_runLet_43) hS hD hh hpp (fun r_18 S_19 H locs hw_20 hP hD hS hC hh hs_21 hpp => ?_)
    obtain ⟨-, hu9, hw_20⟩ := hw_20
    have hu9 := hu9.symm
    subst hu9
    obtain rfl : r_18 = nI (tr 1 n9) := hw_20.trans (TC.let te_12 hn (Or.inr (Or.inr (Or.inr (Or.inl hk)))))
    refine lv_iload hx hb dX6_runLet_46 (lv_at hl 0 rfl) ?_
    refine lv_bipush (v := (-9)) hx hb dX6_runLet_48 (by decide) ?_
    refine lv_iload_n hx hb dX6_runLet_50 rfl (lv_at hl 3 rfl) ?_
    have si_22l : ne R_5 + 1 ≤ bgn R_5 := by omega
    have si_22s := R_5R.sz
    have hC0 := hC
    refine c_ci (c_runV (As := [.int (nI (tr 1 n9)), .int (nI R_5v), .int ((-9)), .int (sgt e9)]) (rest := [.int (nI (tr 11 n9)), .ref (ga G 5)]) (q0 := 5) (ci := 6) ⟨hx, hb, hml, hown, htu⟩ (x_addSight l G S_7 (ne R_5) (nI (tr 1 n9)) (nI R_5v) ((-9)) (sgt e9) hC R_5R.1.2.2.1.1 R_5R.1.2.2.1.2.1 R_5R.1.2.2.1.2.2.1 R_5R.1.2.2.1.2.2.2 ((by omega)) H) (cwV 4 htu hU_X6_137 rfl rfl rfl (by decide +kernel) ⟨show 3 + 1 ≤ 2 * fu + 7 by omega, show 8 + (5 + 11) + 103 ≤ 60 * fu + 230 by omega⟩) hP hK hD hC hpp cw_5 rfl rfl hl.1 rfl (lv_room (Nat.le_of_ble_eq_true rfl)) dX6_runLet_51) hS hD hh hpp (fun r_23 S_24 H locs hw_25 hP hD hS hC hh hs_26 hpp => ?_)
    try dsimp only at hw_25
    have aw_27 : AW [31, 32, 33, 34] [] S_7 S_24 := hw_25.1
    have aw_27t : AW [27, 28, 29, 30, 31, 32, 33, 34] [111, 112] S S_24 := aw_10t.tr (aw_27.mono (by decide) (by decide))
    have tj_28 : TJ S_24 N := TJ.aw tj_11 aw_27 (by decide)
    have si_22R : RCw S_24 (wme R_5 (tr 1 n9) R_5v 0 e9) al R_5f := R_5R.env aw_27 hw_25.2.1 hw_25.2.2.1 si_22l rfl (fun _ => rfl) rfl rfl
    have si_22W : wmW tr N dp (wme R_5 (tr 1 n9) R_5v 0 e9) := w_wme R_5W (hTm.2.2 n9 hn (Or.inr (Or.inr (Or.inr (Or.inl hk))))) (Nat.le_trans he R_5XX.2.1) (fun _ => R_5vi) (fun z => absurd rfl z)
    have si_22z : hlt (wme R_5 (tr 1 n9) R_5v 0 e9) = 0 := R_5z
    obtain rfl : r_23 = sgt (ne R_5 + 1) := hw_25.2.2.2.trans sgt_s.symm
    have si_22n : ne (wme R_5 (tr 1 n9) R_5v 0 e9) = ne R_5 + 1 := rfl
    have si_22v : wnv (wme R_5 (tr 1 n9) R_5v 0 e9) = wnv R_5 := rfl
    have si_22b : bgn (wme R_5 (tr 1 n9) R_5v 0 e9) = bgn R_5 := rfl
    have si_22E : eln (wme R_5 (tr 1 n9) R_5v 0 e9) (ne R_5 + 1) = eln R_5 e9 + 1 := eln_new
    have si_22X : Xt R_5 (wme R_5 (tr 1 n9) R_5v 0 e9) := x_wme
    have si_22XX := R_5XX.tr si_22X
    have si_22FK : KP S S_24 f9 f9 ws (wme R_5 (tr 1 n9) R_5v 0 e9) := KP.env R_5FK aw_27
    have te_29 : TC S_24 tr mk N := te_12.aw aw_27 (by decide)
    refine lv_iload_n hx hb dX6_runLet_54 rfl (lv_at hl 4 rfl) ?_
    refine lv_iconst (v := 1) hx hb dX6_runLet_55 (by decide) ?_
    refine lv_iadd hx hb dX6_runLet_56 ?_
    refine m_top (y := nI (d9 + 1)) (nI_add d9 1) ?_
    have R_30n0 : tr 11 n9 < N := hch1.1
    have R_30e0 : (ne R_5 + 1) ≤ ne ((wme R_5 (tr 1 n9) R_5v 0 e9)) := (Nat.le_refl _)
    have R_30l0 : eln ((wme R_5 (tr 1 n9) R_5v 0 e9)) ((ne R_5 + 1)) ≤ dp (tr 11 n9) := (by rw [si_22E, R_5XX.eln he]; have := hch1.2; omega)
    have R_30b0 : bgn ((wme R_5 (tr 1 n9) R_5v 0 e9)) ≤ al := si_22R.sz.2.2.1
    have hC0 := hC
    refine c_ci (c_runV (As := [.int (nI (tr 11 n9)), .int (sgt (ne R_5 + 1)), .int (nI (d9 + 1))]) (rest := []) (q0 := 5) (ci := 6) ⟨hx, hb, hml, hown, htu⟩ (ih l G S_24 ((wme R_5 (tr 1 n9) R_5v 0 e9)) al R_5f tr N dp mk (d9 + 1) (tr 11 n9) ((ne R_5 + 1)) hC si_22R tj_28 te_29 si_22W hTm si_22z R_30n0 R_30e0 R_30l0 ((by omega)) H) (cwV 3 htu hU_X6_62 rfl rfl rfl (by decide +kernel) ⟨show (2 * fu + 6) + 1 ≤ 2 * fu + 7 by omega, show 8 + (4 + 11) + (60 * fu + 200) ≤ 60 * fu + 230 by omega⟩) hP hK hD hC hpp cw_5 rfl rfl hl.1 rfl (lv_room (Nat.le_of_ble_eq_true rfl)) dX6_runLet_57) hS hD hh hpp (fun r_31 S_32 H locs hw_33 hP hD hS hC hh hs_34 hpp => ?_)
    try dsimp only at hw_33
    have aw_35 : AW [27, 28, 29, 30, 31, 32, 33, 34] [111, 112] S_24 S_32 := hw_33.1
    have aw_35t : AW [27, 28, 29, 30, 31, 32, 33, 34] [111, 112] S S_32 := aw_27t.tr (aw_35.mono (by decide) (by decide))
    have tj_36 : TJ S_32 N := TJ.aw tj_28 aw_35 (by decide)
    have R_30p := wmx_ok hTm mk al fu ((wme R_5 (tr 1 n9) R_5v 0 e9)) (tr 11 n9) ((ne R_5 + 1)) si_22W si_22z R_30b0 R_30n0 R_30e0 R_30l0
    have hw_33q := hw_33.2
    exact c_iret (v := r_31) hx hb hr hK hP hD hS hC hh hpp ⟨aw_35t, (by rw [wmLet_2 R_5e R_5z]; exact XQ.tailv hw_33q (by omega) (by omega) si_22FK si_22XX R_30p.2.1)⟩ dX6_runLet_60 hlocks
  · skip
    refine lv_iload hx hb dX6_runLet_24 (lv_at hl 0 rfl) ?_
    exact c_iret (v := r_6) hx hb hr hK hP hD hS hC hh hpp ⟨aw_10t, (by rw [wmLet_1 R_5e (ans_lt R_5a (fun z => by have h1 := R_5i z; have h2 := (R_5q z).choose_spec.1.sz; omega) c_13)]; exact XQ.stopv R_5b R_5pl R_5a (ans_lt R_5a (fun z => by have h1 := R_5i z; have h2 := (R_5q z).choose_spec.1.sz; omega) c_13))⟩ dX6_runLet_26 hlocks

set_option maxHeartbeats 4000000 in
set_option maxRecDepth 100000 in
/-- runRec -/
theorem x_runRec (l : Launch) (G : cG) (S : cS) (fu : Nat) (ws : wmS) (al : Nat) (f9 : Nat) (tr : aM) (N : Nat) (dp : Nat → Nat) (mk : Nat → Int32) (d9 : Nat) (n9 : Nat) (e9 : Nat) (hC : CL S) (ih : xRunAt fu) (hR : RCw S ws al f9) (hT : TJ S N) (hE : TC S tr mk N) (hWf : wmW tr N dp ws) (hTm : wmT tr N dp) (h0 : hlt ws = 0) (hn : n9 < N) (he : e9 ≤ ne ws) (hel : eln ws e9 ≤ dp n9) (hd : d9 + (fu + 1) = 61) (hc : wnv ws + 1 ≤ bgn ws ∧ ne ws + 1 ≤ bgn ws ∧ f9 + 6 ≤ 6 * bgn ws) (hk : tr 0 n9 = 8) (Hs : Heap) : Met l yX6_runRec (wC yX6_runRec cX6_runRec 4 (some .int)) (cRm S (2 * fu + 7) (60 * fu + 230)) (cPc G S Hs [.ref (ga G 5), .int (nI n9), .int (sgt e9), .int (nI d9)]) (cQi G S Hs (fun v u => AW [27, 28, 29, 30, 31, 32, 33, 34] [111, 112] S u ∧ (XQ S u al f9 1 ws (wmRecc tr (wmx tr mk al fu) ws n9 e9) v))) (CC - PT S) (12 * (CC - PT S)) (cA G S Hs.size) := by
  refine Met.ofW (cc := cX6_runRec) (maxL := 4) (ret := (some .int)) (by decide) rfl ?_
  intro p e s m args below meth c s₁ B hml hv
  obtain ⟨rfl, hsz, hP, hK, hD0, -⟩ := hv
  have hx := B.exec
  have hb := B.bytes
  have hr := B.returns
  have htu : ∀ w ∈ CU, w.before _ s = true := fun w h => atoms_spec (ws := (wC yX6_runRec cX6_runRec 4 (some .int))) B.pre w (List.mem_cons_of_mem _ h)
  have hown : s.vm.findClass RX6 = some m.cls := findClass_of_methodNamed B.named
  have hlocks := B.notSynchronized
  subst hsz
  have hD : cD (cA G S s.heap.size) G S := cD_self hD0
  have hl := lv_entry ([.ref (ga G 5), .int (nI n9), .int (sgt e9), .int (nI d9)]) (n := 4) (Nat.le_of_ble_eq_true rfl)
  rw [lg_entry_eq]
  generalize (lg_sl ([.ref (ga G 5), .int (nI n9), .int (sgt e9), .int (nI d9)]) ++ List.replicate (4 - (lg_sl ([.ref (ga G 5), .int (nI n9), .int (sgt e9), .int (nI d9)])).length) Slot.unset).toArray = ls at hl ⊢
  have hl : lv_has ls 4 [(0, .ref (ga G 5)), (1, .int (nI n9)), (2, .int (sgt e9)), (3, .int (nI d9))] := hl
  obtain ⟨H, hHe⟩ : ∃ H : Heap, H = s.heap := ⟨_, rfl⟩
  rw [← hHe] at hP
  have hS : va_S (cA G S s.heap.size) s.heap H [] := by rw [hHe]; exact va_S.rf
  have hh : HS S S := HS.rf
  have hpp : PT S ≤ PT S := Nat.le_refl _
  have hB9 := hC.1
  refine W.heq hHe ?_
  refine c_ent (S := S) ?_
  obtain ⟨hc1, hc2, hc3⟩ := id hc
  have hp9 : prts (tr 0 n9) (tr 2 n9) = 2 := by rw [hk]; rfl
  have hch0 : tr 10 n9 < N ∧ dp n9 + 1 ≤ dp (tr 10 n9) := (hTm.1 n9 hn).2.2 0 (by rw [hp9]; decide)
  have hch1 : tr 11 n9 < N ∧ dp n9 + 1 ≤ dp (tr 11 n9) := (hTm.1 n9 hn).2.2 1 (by rw [hp9]; decide)
  refine lv_aload_n hx hb dX6_runRec_0 rfl (lv_at hl 0 rfl) ?_
  refine lv_aload_n hx hb dX6_runRec_1 rfl (lv_at hl 0 rfl) ?_
  refine va_get (D := gD G) (ci := 6) (v := .ref (ga G 1)) (C := RX6) (T := TX6) (N := 14) hx hb htu cu_in6 hown hK hP 5 cw_5 rfl 0 (by decide) (htu _ C_162) (fun _ h9 => h9) rfl dX6_runRec_2 ?_
  refine lv_iload_n hx hb dX6_runRec_5 rfl (lv_at hl 1 rfl) ?_
  refine lv_iconst (v := 1) hx hb dX6_runRec_6 (by decide) ?_
  have hC0 := hC
  refine c_ci (c_runV (As := [.int (nI n9), .int 1]) (rest := [.ref (ga G 5)]) (q0 := 1) (ci := 3) ⟨hx, hb, hml, hown, htu⟩ (tt_partOf l G S N (nI n9) 1 hC hT.1 H) (cwV 2 htu hU_X6_134 rfl rfl rfl (by decide +kernel) ⟨show 1 + 1 ≤ 2 * fu + 7 by omega, show 8 + (3 + 11) + 21 ≤ 60 * fu + 230 by omega⟩) hP hK hD hC hpp cw_1 rfl rfl hl.1 rfl (lv_room (Nat.le_of_ble_eq_true rfl)) dX6_runRec_7) hS hD hh hpp (fun r_1 S_2 H locs hw_3 hP hD hS hC hh hs_4 hpp => ?_)
  obtain ⟨-, hu9, hw_3⟩ := hw_3
  have hu9 := hu9.symm
  subst hu9
  obtain rfl : r_1 = nI (tr 11 n9) := hw_3.trans (TC.part hE hn (i := 1) (by rw [hp9]; decide))
  refine lv_aload_n hx hb dX6_runRec_10 rfl (lv_at hl 0 rfl) ?_
  refine lv_aload_n hx hb dX6_runRec_11 rfl (lv_at hl 0 rfl) ?_
  refine va_get (D := gD G) (ci := 6) (v := .ref (ga G 1)) (C := RX6) (T := TX6) (N := 14) hx hb htu cu_in6 hown hK hP 5 cw_5 rfl 0 (by decide) (htu _ C_162) (fun _ h9 => h9) rfl dX6_runRec_12 ?_
  refine lv_iload_n hx hb dX6_runRec_15 rfl (lv_at hl 1 rfl) ?_
  have hC0 := hC
  refine c_ci (c_runV (As := [.int (nI n9)]) (rest := [.ref (ga G 5), .int (nI (tr 11 n9)), .ref (ga G 5)]) (q0 := 1) (ci := 3) ⟨hx, hb, hml, hown, htu⟩ (tt_markOf l G S N (nI n9) hC hT.1 H) (cwV 1 htu hU_X6_94 rfl rfl rfl (by decide +kernel) ⟨show 1 + 1 ≤ 2 * fu + 7 by omega, show 8 + (2 + 11) + 21 ≤ 60 * fu + 230 by omega⟩) hP hK hD hC hpp cw_1 rfl rfl hl.1 rfl (lv_room (Nat.le_of_ble_eq_true rfl)) dX6_runRec_16) hS hD hh hpp (fun r_5 S_6 H locs hw_7 hP hD hS hC hh hs_8 hpp => ?_)
  obtain ⟨-, hu9, hw_7⟩ := hw_7
  have hu9 := hu9.symm
  subst hu9
  obtain rfl : r_5 = nI (tr 1 n9) := hw_7.trans (TC.let hE hn (Or.inr (Or.inr (Or.inr (Or.inr hk)))))
  refine lv_bipush (v := (-9)) hx hb dX6_runRec_19 (by decide) ?_
  refine lv_iload_n hx hb dX6_runRec_21 rfl (lv_at hl 1 rfl) ?_
  refine lv_iload_n hx hb dX6_runRec_22 rfl (lv_at hl 2 rfl) ?_
  have si_9l : ne ws + 1 ≤ bgn ws := by omega
  have si_9s := hR.sz
  have hC0 := hC
  refine c_ci (c_runV (As := [.int (nI (tr 1 n9)), .int ((-9)), .int (nI n9), .int (sgt e9)]) (rest := [.int (nI (tr 11 n9)), .ref (ga G 5)]) (q0 := 5) (ci := 6) ⟨hx, hb, hml, hown, htu⟩ (x_addSight l G S (ne ws) (nI (tr 1 n9)) ((-9)) (nI n9) (sgt e9) hC hR.1.2.2.1.1 hR.1.2.2.1.2.1 hR.1.2.2.1.2.2.1 hR.1.2.2.1.2.2.2 ((by omega)) H) (cwV 4 htu hU_X6_137 rfl rfl rfl (by decide +kernel) ⟨show 3 + 1 ≤ 2 * fu + 7 by omega, show 8 + (5 + 11) + 103 ≤ 60 * fu + 230 by omega⟩) hP hK hD hC hpp cw_5 rfl rfl hl.1 rfl (lv_room (Nat.le_of_ble_eq_true rfl)) dX6_runRec_23) hS hD hh hpp (fun r_10 S_11 H locs hw_12 hP hD hS hC hh hs_13 hpp => ?_)
  try dsimp only at hw_12
  have aw_14 : AW [31, 32, 33, 34] [] S S_11 := hw_12.1
  have aw_14t : AW [27, 28, 29, 30, 31, 32, 33, 34] [111, 112] S S_11 := AW.rf.tr (aw_14.mono (by decide) (by decide))
  have tj_15 : TJ S_11 N := TJ.aw hT aw_14 (by decide)
  have si_9R : RCw S_11 (wme ws (tr 1 n9) 0 (n9 + 1) e9) al f9 := hR.env aw_14 hw_12.2.1 hw_12.2.2.1 si_9l rfl (fun z => absurd z (by omega)) sgt_s.symm rfl
  have si_9W : wmW tr N dp (wme ws (tr 1 n9) 0 (n9 + 1) e9) := w_wme hWf (hTm.2.2 n9 hn (Or.inr (Or.inr (Or.inr (Or.inr hk))))) he (fun z => absurd z (by omega)) (fun _ => ⟨by rw [Nat.add_sub_cancel]; exact hn, by rw [Nat.add_sub_cancel]; exact hk, by rw [Nat.add_sub_cancel]; exact hel⟩)
  have si_9z : hlt (wme ws (tr 1 n9) 0 (n9 + 1) e9) = 0 := h0
  obtain rfl : r_10 = sgt (ne ws + 1) := hw_12.2.2.2.trans sgt_s.symm
  have si_9n : ne (wme ws (tr 1 n9) 0 (n9 + 1) e9) = ne ws + 1 := rfl
  have si_9v : wnv (wme ws (tr 1 n9) 0 (n9 + 1) e9) = wnv ws := rfl
  have si_9b : bgn (wme ws (tr 1 n9) 0 (n9 + 1) e9) = bgn ws := rfl
  have si_9E : eln (wme ws (tr 1 n9) 0 (n9 + 1) e9) (ne ws + 1) = eln ws e9 + 1 := eln_new
  have si_9X : Xt ws (wme ws (tr 1 n9) 0 (n9 + 1) e9) := x_wme
  have si_9XX := (Xt.rf (s := ws)).tr si_9X
  have si_9FK : KP S S_11 f9 f9 ws (wme ws (tr 1 n9) 0 (n9 + 1) e9) := KP.env KP.rf aw_14
  have te_16 : TC S_11 tr mk N := hE.aw aw_14 (by decide)
  refine lv_iload_n hx hb dX6_runRec_26 rfl (lv_at hl 3 rfl) ?_
  refine lv_iconst (v := 1) hx hb dX6_runRec_27 (by decide) ?_
  refine lv_iadd hx hb dX6_runRec_28 ?_
  refine m_top (y := nI (d9 + 1)) (nI_add d9 1) ?_
  have R_17n0 : tr 11 n9 < N := hch1.1
  have R_17e0 : (ne ws + 1) ≤ ne ((wme ws (tr 1 n9) 0 (n9 + 1) e9)) := (Nat.le_refl _)
  have R_17l0 : eln ((wme ws (tr 1 n9) 0 (n9 + 1) e9)) ((ne ws + 1)) ≤ dp (tr 11 n9) := (by rw [si_9E]; have := hch1.2; omega)
  have R_17b0 : bgn ((wme ws (tr 1 n9) 0 (n9 + 1) e9)) ≤ al := si_9R.sz.2.2.1
  have hC0 := hC
  refine c_ci (c_runV (As := [.int (nI (tr 11 n9)), .int (sgt (ne ws + 1)), .int (nI (d9 + 1))]) (rest := []) (q0 := 5) (ci := 6) ⟨hx, hb, hml, hown, htu⟩ (ih l G S_11 ((wme ws (tr 1 n9) 0 (n9 + 1) e9)) al f9 tr N dp mk (d9 + 1) (tr 11 n9) ((ne ws + 1)) hC si_9R tj_15 te_16 si_9W hTm si_9z R_17n0 R_17e0 R_17l0 ((by omega)) H) (cwV 3 htu hU_X6_62 rfl rfl rfl (by decide +kernel) ⟨show (2 * fu + 6) + 1 ≤ 2 * fu + 7 by omega, show 8 + (4 + 11) + (60 * fu + 200) ≤ 60 * fu + 230 by omega⟩) hP hK hD hC hpp cw_5 rfl rfl hl.1 rfl (lv_room (Nat.le_of_ble_eq_true rfl)) dX6_runRec_29) hS hD hh hpp (fun r_18 S_19 H locs hw_20 hP hD hS hC hh hs_21 hpp => ?_)
  try dsimp only at hw_20
  have aw_22 : AW [27, 28, 29, 30, 31, 32, 33, 34] [111, 112] S_11 S_19 := hw_20.1
  have aw_22t : AW [27, 28, 29, 30, 31, 32, 33, 34] [111, 112] S S_19 := aw_14t.tr (aw_22.mono (by decide) (by decide))
  have tj_23 : TJ S_19 N := TJ.aw tj_15 aw_22 (by decide)
  have R_17p := wmx_ok hTm mk al fu ((wme ws (tr 1 n9) 0 (n9 + 1) e9)) (tr 11 n9) ((ne ws + 1)) si_9W si_9z R_17b0 R_17n0 R_17e0 R_17l0
  have hw_20q := hw_20.2
  exact c_iret (v := r_18) hx hb hr hK hP hD hS hC hh hpp ⟨aw_22t, (by rw [(rfl : wmRecc tr (wmx tr mk al fu) ws n9 e9 = (wmx tr mk al fu) (wme ws (tr 1 n9) 0 (n9 + 1) e9) (tr 11 n9) (ne ws + 1))]; exact XQ.tailv hw_20q (by omega) (by omega) si_9FK si_9XX R_17p.2.1)⟩ dX6_runRec_32 hlocks

set_option maxHeartbeats 4000000 in
set_option maxRecDepth 100000 in
/-- runPick -/
theorem x_runPick (l : Launch) (G : cG) (S : cS) (fu : Nat) (ws : wmS) (al : Nat) (f9 : Nat) (tr : aM) (N : Nat) (dp : Nat → Nat) (mk : Nat → Int32) (d9 : Nat) (n9 : Nat) (e9 : Nat) (hC : CL S) (ih : xRunAt fu) (hR : RCw S ws al f9) (hT : TJ S N) (hE : TC S tr mk N) (hWf : wmW tr N dp ws) (hTm : wmT tr N dp) (h0 : hlt ws = 0) (hn : n9 < N) (he : e9 ≤ ne ws) (hel : eln ws e9 ≤ dp n9) (hd : d9 + (fu + 1) = 61) (hc : wnv ws + 1 ≤ bgn ws ∧ ne ws + 1 ≤ bgn ws ∧ f9 + 6 ≤ 6 * bgn ws) (hk : tr 0 n9 = 9) (Hs : Heap) : Met l yX6_runPick (wC yX6_runPick cX6_runPick 5 (some .int)) (cRm S (2 * fu + 7) (60 * fu + 230)) (cPc G S Hs [.ref (ga G 5), .int (nI n9), .int (sgt e9), .int (nI d9)]) (cQi G S Hs (fun v u => AW [27, 28, 29, 30, 31, 32, 33, 34] [111, 112] S u ∧ (XQ S u al f9 1 ws (wmPick tr (wmx tr mk al fu) ws n9 e9) v))) (CC - PT S) (12 * (CC - PT S)) (cA G S Hs.size) := by
  refine Met.ofW (cc := cX6_runPick) (maxL := 5) (ret := (some .int)) (by decide) rfl ?_
  intro p e s m args below meth c s₁ B hml hv
  obtain ⟨rfl, hsz, hP, hK, hD0, -⟩ := hv
  have hx := B.exec
  have hb := B.bytes
  have hr := B.returns
  have htu : ∀ w ∈ CU, w.before _ s = true := fun w h => atoms_spec (ws := (wC yX6_runPick cX6_runPick 5 (some .int))) B.pre w (List.mem_cons_of_mem _ h)
  have hown : s.vm.findClass RX6 = some m.cls := findClass_of_methodNamed B.named
  have hlocks := B.notSynchronized
  subst hsz
  have hD : cD (cA G S s.heap.size) G S := cD_self hD0
  have hl := lv_entry ([.ref (ga G 5), .int (nI n9), .int (sgt e9), .int (nI d9)]) (n := 5) (Nat.le_of_ble_eq_true rfl)
  rw [lg_entry_eq]
  generalize (lg_sl ([.ref (ga G 5), .int (nI n9), .int (sgt e9), .int (nI d9)]) ++ List.replicate (5 - (lg_sl ([.ref (ga G 5), .int (nI n9), .int (sgt e9), .int (nI d9)])).length) Slot.unset).toArray = ls at hl ⊢
  have hl : lv_has ls 5 [(0, .ref (ga G 5)), (1, .int (nI n9)), (2, .int (sgt e9)), (3, .int (nI d9))] := hl
  obtain ⟨H, hHe⟩ : ∃ H : Heap, H = s.heap := ⟨_, rfl⟩
  rw [← hHe] at hP
  have hS : va_S (cA G S s.heap.size) s.heap H [] := by rw [hHe]; exact va_S.rf
  have hh : HS S S := HS.rf
  have hpp : PT S ≤ PT S := Nat.le_refl _
  have hB9 := hC.1
  refine W.heq hHe ?_
  refine c_ent (S := S) ?_
  obtain ⟨hc1, hc2, hc3⟩ := id hc
  have hp9 : prts (tr 0 n9) (tr 2 n9) = 3 := by rw [hk]; rfl
  have hch0 : tr 10 n9 < N ∧ dp n9 + 1 ≤ dp (tr 10 n9) := (hTm.1 n9 hn).2.2 0 (by rw [hp9]; decide)
  have hch1 : tr 11 n9 < N ∧ dp n9 + 1 ≤ dp (tr 11 n9) := (hTm.1 n9 hn).2.2 1 (by rw [hp9]; decide)
  have hch2 : tr 12 n9 < N ∧ dp n9 + 1 ≤ dp (tr 12 n9) := (hTm.1 n9 hn).2.2 2 (by rw [hp9]; decide)
  refine lv_aload_n hx hb dX6_runPick_0 rfl (lv_at hl 0 rfl) ?_
  refine lv_aload_n hx hb dX6_runPick_1 rfl (lv_at hl 0 rfl) ?_
  refine va_get (D := gD G) (ci := 6) (v := .ref (ga G 1)) (C := RX6) (T := TX6) (N := 14) hx hb htu cu_in6 hown hK hP 5 cw_5 rfl 0 (by decide) (htu _ C_162) (fun _ h9 => h9) rfl dX6_runPick_2 ?_
  refine lv_iload_n hx hb dX6_runPick_5 rfl (lv_at hl 1 rfl) ?_
  refine lv_iconst (v := 0) hx hb dX6_runPick_6 (by decide) ?_
  have hC0 := hC
  refine c_ci (c_runV (As := [.int (nI n9), .int 0]) (rest := [.ref (ga G 5)]) (q0 := 1) (ci := 3) ⟨hx, hb, hml, hown, htu⟩ (tt_partOf l G S N (nI n9) 0 hC hT.1 H) (cwV 2 htu hU_X6_134 rfl rfl rfl (by decide +kernel) ⟨show 1 + 1 ≤ 2 * fu + 7 by omega, show 8 + (3 + 11) + 21 ≤ 60 * fu + 230 by omega⟩) hP hK hD hC hpp cw_1 rfl rfl hl.1 rfl (lv_room (Nat.le_of_ble_eq_true rfl)) dX6_runPick_7) hS hD hh hpp (fun r_1 S_2 H locs hw_3 hP hD hS hC hh hs_4 hpp => ?_)
  obtain ⟨-, hu9, hw_3⟩ := hw_3
  have hu9 := hu9.symm
  subst hu9
  obtain rfl : r_1 = nI (tr 10 n9) := hw_3.trans (TC.part hE hn (i := 0) (by rw [hp9]; decide))
  refine lv_iload_n hx hb dX6_runPick_10 rfl (lv_at hl 2 rfl) ?_
  refine lv_iload_n hx hb dX6_runPick_11 rfl (lv_at hl 3 rfl) ?_
  refine lv_iconst (v := 1) hx hb dX6_runPick_12 (by decide) ?_
  refine lv_iadd hx hb dX6_runPick_13 ?_
  refine m_top (y := nI (d9 + 1)) (nI_add d9 1) ?_
  have R_5n0 : tr 10 n9 < N := hch0.1
  have R_5e0 : e9 ≤ ne ws := (Nat.le_trans he (Xt.rf (s := ws)).2.1)
  have R_5l0 : eln ws e9 ≤ dp (tr 10 n9) := (by rw [(Xt.rf (s := ws)).eln he]; have := hch0.2; omega)
  have R_5b0 : bgn ws ≤ al := hR.sz.2.2.1
  have hC0 := hC
  refine c_ci (c_runV (As := [.int (nI (tr 10 n9)), .int (sgt e9), .int (nI (d9 + 1))]) (rest := []) (q0 := 5) (ci := 6) ⟨hx, hb, hml, hown, htu⟩ (ih l G S ws al f9 tr N dp mk (d9 + 1) (tr 10 n9) e9 hC hR hT hE hWf hTm h0 R_5n0 R_5e0 R_5l0 ((by omega)) H) (cwV 3 htu hU_X6_62 rfl rfl rfl (by decide +kernel) ⟨show (2 * fu + 6) + 1 ≤ 2 * fu + 7 by omega, show 8 + (4 + 11) + (60 * fu + 200) ≤ 60 * fu + 230 by omega⟩) hP hK hD hC hpp cw_5 rfl rfl hl.1 rfl (lv_room (Nat.le_of_ble_eq_true rfl)) dX6_runPick_14) hS hD hh hpp (fun r_6 S_7 H locs hw_8 hP hD hS hC hh hs_9 hpp => ?_)
  try dsimp only at hw_8
  have aw_10 : AW [27, 28, 29, 30, 31, 32, 33, 34] [111, 112] S S_7 := hw_8.1
  have aw_10t : AW [27, 28, 29, 30, 31, 32, 33, 34] [111, 112] S S_7 := AW.rf.tr (aw_10.mono (by decide) (by decide))
  have tj_11 : TJ S_7 N := TJ.aw hT aw_10 (by decide)
  obtain ⟨R_5, R_5v, R_5e⟩ : ∃ a b, wmx tr mk al fu ws (tr 10 n9) e9 = (a, b) := ⟨_, _, rfl⟩
  have R_5p := wmx_ok hTm mk al fu ws (tr 10 n9) e9 hWf h0 R_5b0 R_5n0 R_5e0 R_5l0
  rw [R_5e] at R_5p
  obtain ⟨R_5W, R_5X, R_5c, R_5i⟩ := R_5p
  obtain ⟨R_5c1, R_5c2, R_5c3, R_5c4⟩ := R_5c
  dsimp only at R_5W R_5X R_5c1 R_5c2 R_5c3 R_5c4 R_5i
  have hw_8q := hw_8.2
  rw [R_5e] at hw_8q
  obtain ⟨R_5q, R_5b, R_5pl, R_5a⟩ := hw_8q
  dsimp only at R_5q R_5b R_5pl
  have te_12 : TC S_7 tr mk N := hE.aw aw_10 (by decide)
  refine lv_istore (lv' := [(4, .int r_6), (0, .ref (ga G 5)), (1, .int (nI n9)), (2, .int (sgt e9)), (3, .int (nI d9))]) hx hb dX6_runPick_17 hl (by decide) rfl (fun ls hl => ?_)
  refine lv_iload hx hb dX6_runPick_19 (lv_at hl 0 rfl) ?_
  refine lv_if_ge (tgt := 27) hx hb dX6_runPick_21 (by decide) (fun c_13 => ?_) (fun c_13 => ?_)
  · skip
    have R_5z : hlt R_5 = 0 := ans_ge R_5a c_13
    obtain ⟨R_5f, R_5R, R_5f1, R_5f2, R_5K⟩ := R_5q R_5z
    have R_5y : r_6 = nI R_5v := R_5a.trans (ans_go R_5z)
    subst R_5y
    have R_5vi := R_5i R_5z
    have R_5FK : KP S S_7 f9 f9 ws R_5 := KP.trans KP.rf R_5K (by omega) (by omega) (Xt.rf (s := ws)) R_5X
    have R_5XX := (Xt.rf (s := ws)).tr R_5X
    refine lv_aload_n hx hb dX6_runPick_27 rfl (lv_at hl 1 rfl) ?_
    refine va_get (D := gD G) (ci := 6) (v := .ref (kH S 27)) (C := RX6) (T := TX6) (N := 14) hx hb htu cu_in6 hown hK hP 5 cw_5 rfl 2 (by decide) (htu _ C_152) (fun _ h9 => h9) (c_hv (hh.2 27 (lt35 (by decide)))) dX6_runPick_28 ?_
    refine lv_iload hx hb dX6_runPick_31 (lv_at hl 0 rfl) ?_
    have hC0 := hC
    refine c_ci (c_runV (As := [.int (nI R_5v)]) (rest := []) (q0 := (2 * 27 + 13)) (ci := 0) ⟨hx, hb, hml, hown, htu⟩ (c_getA l G S_7 27 (lt35 (by decide)) hC (kH S 27) (hh.2 27 (lt35 (by decide))) (nI R_5v) H) (cwV 1 htu hU_X6_131 rfl rfl rfl (by decide +kernel) ⟨show 0 + 1 ≤ 2 * fu + 7 by omega, show 8 + (2 + 11) + 0 ≤ 60 * fu + 230 by omega⟩) hP hK hD hC hpp (c_hd (hh.2 27 (lt35 (by decide))) (cw_row (lt35 (by decide)))) rfl rfl hl.1 rfl (lv_room (Nat.le_of_ble_eq_true rfl)) dX6_runPick_33) hS hD hh hpp (fun r_14 S_15 H locs hw_16 hP hD hS hC hh hs_17 hpp => ?_)
    obtain ⟨hu9, hw_16⟩ := hw_16
    have hu9 := hu9.symm
    subst hu9
    obtain rfl : r_14 = nI (vso R_5 R_5v) := hw_16.trans (R_5R.g27 R_5vi)
    refine lv_iconst (v := 1) hx hb dX6_runPick_36 (by decide) ?_
    refine lv_icmp_eq (tgt := 46) hx hb dX6_runPick_37 (by decide) (fun c_18 => ?_) (fun c_18 => ?_)
    · skip
      have hv1 : vso R_5 R_5v = 1 := (nI_eq (b := 1) (by have := (R_5W.1 _ R_5vi).1; omega) (by omega)).mp c_18
      refine lv_aload_n hx hb dX6_runPick_46 rfl (lv_at hl 1 rfl) ?_
      refine lv_aload_n hx hb dX6_runPick_47 rfl (lv_at hl 1 rfl) ?_
      refine va_get (D := gD G) (ci := 6) (v := .ref (ga G 1)) (C := RX6) (T := TX6) (N := 14) hx hb htu cu_in6 hown hK hP 5 cw_5 rfl 0 (by decide) (htu _ C_162) (fun _ h9 => h9) rfl dX6_runPick_48 ?_
      refine lv_iload_n hx hb dX6_runPick_51 rfl (lv_at hl 2 rfl) ?_
      refine lv_aload_n hx hb dX6_runPick_52 rfl (lv_at hl 1 rfl) ?_
      refine va_get (D := gD G) (ci := 6) (v := .ref (kH S 28)) (C := RX6) (T := TX6) (N := 14) hx hb htu cu_in6 hown hK hP 5 cw_5 rfl 3 (by decide) (htu _ C_153) (fun _ h9 => h9) (c_hv (hh.2 28 (lt35 (by decide)))) dX6_runPick_53 ?_
      refine lv_iload hx hb dX6_runPick_56 (lv_at hl 0 rfl) ?_
      have hC0 := hC
      refine c_ci (c_runV (As := [.int (nI R_5v)]) (rest := [.int (nI n9), .ref (ga G 1), .ref (ga G 5)]) (q0 := (2 * 28 + 13)) (ci := 0) ⟨hx, hb, hml, hown, htu⟩ (c_getA l G S_7 28 (lt35 (by decide)) hC (kH S 28) (hh.2 28 (lt35 (by decide))) (nI R_5v) H) (cwV 1 htu hU_X6_131 rfl rfl rfl (by decide +kernel) ⟨show 0 + 1 ≤ 2 * fu + 7 by omega, show 8 + (2 + 11) + 0 ≤ 60 * fu + 230 by omega⟩) hP hK hD hC hpp (c_hd (hh.2 28 (lt35 (by decide))) (cw_row (lt35 (by decide)))) rfl rfl hl.1 rfl (lv_room (Nat.le_of_ble_eq_true rfl)) dX6_runPick_58) hS hD hh hpp (fun r_19 S_20 H locs hw_21 hP hD hS hC hh hs_22 hpp => ?_)
      obtain ⟨hu9, hw_21⟩ := hw_21
      have hu9 := hu9.symm
      subst hu9
      obtain rfl : r_19 = R_5.2.1 R_5v := hw_21.trans (R_5R.g28 R_5vi (by omega))
      refine lv_iconst (v := 1) hx hb dX6_runPick_61 (by decide) ?_
      refine lv_icmp_ne (tgt := 69) hx hb dX6_runPick_62 (by decide) (fun c_23 => ?_) (fun c_23 => ?_)
      · skip
        refine lv_iconst (v := 2) hx hb dX6_runPick_69 (by decide) ?_
        have hC0 := hC
        refine c_ci (c_runV (As := [.int (nI n9), .int 2]) (rest := [.ref (ga G 5)]) (q0 := 1) (ci := 3) ⟨hx, hb, hml, hown, htu⟩ (tt_partOf l G S_7 N (nI n9) 2 hC tj_11.1 H) (cwV 2 htu hU_X6_134 rfl rfl rfl (by decide +kernel) ⟨show 1 + 1 ≤ 2 * fu + 7 by omega, show 8 + (3 + 11) + 21 ≤ 60 * fu + 230 by omega⟩) hP hK hD hC hpp cw_1 rfl rfl hl.1 rfl (lv_room (Nat.le_of_ble_eq_true rfl)) dX6_runPick_70) hS hD hh hpp (fun r_24 S_25 H locs hw_26 hP hD hS hC hh hs_27 hpp => ?_)
        obtain ⟨-, hu9, hw_26⟩ := hw_26
        have hu9 := hu9.symm
        subst hu9
        obtain rfl : r_24 = nI (tr 12 n9) := hw_26.trans (TC.part te_12 hn (i := 2) (by rw [hp9]; decide))
        refine lv_iload_n hx hb dX6_runPick_73 rfl (lv_at hl 3 rfl) ?_
        refine lv_iload_n hx hb dX6_runPick_74 rfl (lv_at hl 4 rfl) ?_
        refine lv_iconst (v := 1) hx hb dX6_runPick_75 (by decide) ?_
        refine lv_iadd hx hb dX6_runPick_76 ?_
        refine m_top (y := nI (d9 + 1)) (nI_add d9 1) ?_
        have R_28n0 : tr 12 n9 < N := hch2.1
        have R_28e0 : e9 ≤ ne R_5 := (Nat.le_trans he R_5XX.2.1)
        have R_28l0 : eln R_5 e9 ≤ dp (tr 12 n9) := (by rw [R_5XX.eln he]; have := hch2.2; omega)
        have R_28b0 : bgn R_5 ≤ al := R_5R.sz.2.2.1
        have hC0 := hC
        refine c_ci (c_runV (As := [.int (nI (tr 12 n9)), .int (sgt e9), .int (nI (d9 + 1))]) (rest := []) (q0 := 5) (ci := 6) ⟨hx, hb, hml, hown, htu⟩ (ih l G S_7 R_5 al R_5f tr N dp mk (d9 + 1) (tr 12 n9) e9 hC R_5R tj_11 te_12 R_5W hTm R_5z R_28n0 R_28e0 R_28l0 ((by omega)) H) (cwV 3 htu hU_X6_62 rfl rfl rfl (by decide +kernel) ⟨show (2 * fu + 6) + 1 ≤ 2 * fu + 7 by omega, show 8 + (4 + 11) + (60 * fu + 200) ≤ 60 * fu + 230 by omega⟩) hP hK hD hC hpp cw_5 rfl rfl hl.1 rfl (lv_room (Nat.le_of_ble_eq_true rfl)) dX6_runPick_77) hS hD hh hpp (fun r_29 S_30 H locs hw_31 hP hD hS hC hh hs_32 hpp => ?_)
        try dsimp only at hw_31
        have aw_33 : AW [27, 28, 29, 30, 31, 32, 33, 34] [111, 112] S_7 S_30 := hw_31.1
        have aw_33t : AW [27, 28, 29, 30, 31, 32, 33, 34] [111, 112] S S_30 := aw_10t.tr (aw_33.mono (by decide) (by decide))
        have tj_34 : TJ S_30 N := TJ.aw tj_11 aw_33 (by decide)
        have R_28p := wmx_ok hTm mk al fu R_5 (tr 12 n9) e9 R_5W R_5z R_28b0 R_28n0 R_28e0 R_28l0
        have hw_31q := hw_31.2
        exact c_iret (v := r_29) hx hb hr hK hP hD hS hC hh hpp ⟨aw_33t, (by rw [wmPick_2 R_5e R_5z, show wmPick2 tr (wmx tr mk al fu) R_5 n9 e9 R_5v = (wmx tr mk al fu) R_5 (tr 12 n9) e9 from by (unfold wmPick2; rw [if_pos hv1, if_neg c_23])]; exact XQ.tailv hw_31q (by omega) (by omega) R_5FK R_5XX R_28p.2.1)⟩ dX6_runPick_80 hlocks
      · skip
        refine lv_iconst (v := 1) hx hb dX6_runPick_65 (by decide) ?_
        refine lv_goto (tgt := 70) hx hb dX6_runPick_66 (by decide) ?_
        have hC0 := hC
        refine c_ci (c_runV (As := [.int (nI n9), .int 1]) (rest := [.ref (ga G 5)]) (q0 := 1) (ci := 3) ⟨hx, hb, hml, hown, htu⟩ (tt_partOf l G S_7 N (nI n9) 1 hC tj_11.1 H) (cwV 2 htu hU_X6_134 rfl rfl rfl (by decide +kernel) ⟨show 1 + 1 ≤ 2 * fu + 7 by omega, show 8 + (3 + 11) + 21 ≤ 60 * fu + 230 by omega⟩) hP hK hD hC hpp cw_1 rfl rfl hl.1 rfl (lv_room (Nat.le_of_ble_eq_true rfl)) dX6_runPick_70) hS hD hh hpp (fun r_35 S_36 H locs hw_37 hP hD hS hC hh hs_38 hpp => ?_)
        obtain ⟨-, hu9, hw_37⟩ := hw_37
        have hu9 := hu9.symm
        subst hu9
        obtain rfl : r_35 = nI (tr 11 n9) := hw_37.trans (TC.part te_12 hn (i := 1) (by rw [hp9]; decide))
        refine lv_iload_n hx hb dX6_runPick_73 rfl (lv_at hl 3 rfl) ?_
        refine lv_iload_n hx hb dX6_runPick_74 rfl (lv_at hl 4 rfl) ?_
        refine lv_iconst (v := 1) hx hb dX6_runPick_75 (by decide) ?_
        refine lv_iadd hx hb dX6_runPick_76 ?_
        refine m_top (y := nI (d9 + 1)) (nI_add d9 1) ?_
        have R_39n0 : tr 11 n9 < N := hch1.1
        have R_39e0 : e9 ≤ ne R_5 := (Nat.le_trans he R_5XX.2.1)
        have R_39l0 : eln R_5 e9 ≤ dp (tr 11 n9) := (by rw [R_5XX.eln he]; have := hch1.2; omega)
        have R_39b0 : bgn R_5 ≤ al := R_5R.sz.2.2.1
        have hC0 := hC
        refine c_ci (c_runV (As := [.int (nI (tr 11 n9)), .int (sgt e9), .int (nI (d9 + 1))]) (rest := []) (q0 := 5) (ci := 6) ⟨hx, hb, hml, hown, htu⟩ (ih l G S_7 R_5 al R_5f tr N dp mk (d9 + 1) (tr 11 n9) e9 hC R_5R tj_11 te_12 R_5W hTm R_5z R_39n0 R_39e0 R_39l0 ((by omega)) H) (cwV 3 htu hU_X6_62 rfl rfl rfl (by decide +kernel) ⟨show (2 * fu + 6) + 1 ≤ 2 * fu + 7 by omega, show 8 + (4 + 11) + (60 * fu + 200) ≤ 60 * fu + 230 by omega⟩) hP hK hD hC hpp cw_5 rfl rfl hl.1 rfl (lv_room (Nat.le_of_ble_eq_true rfl)) dX6_runPick_77) hS hD hh hpp (fun r_40 S_41 H locs hw_42 hP hD hS hC hh hs_43 hpp => ?_)
        try dsimp only at hw_42
        have aw_44 : AW [27, 28, 29, 30, 31, 32, 33, 34] [111, 112] S_7 S_41 := hw_42.1
        have aw_44t : AW [27, 28, 29, 30, 31, 32, 33, 34] [111, 112] S S_41 := aw_10t.tr (aw_44.mono (by decide) (by decide))
        have tj_45 : TJ S_41 N := TJ.aw tj_11 aw_44 (by decide)
        have R_39p := wmx_ok hTm mk al fu R_5 (tr 11 n9) e9 R_5W R_5z R_39b0 R_39n0 R_39e0 R_39l0
        have hw_42q := hw_42.2
        exact c_iret (v := r_40) hx hb hr hK hP hD hS hC hh hpp ⟨aw_44t, (by rw [wmPick_2 R_5e R_5z, show wmPick2 tr (wmx tr mk al fu) R_5 n9 e9 R_5v = (wmx tr mk al fu) R_5 (tr 11 n9) e9 from by (unfold wmPick2; rw [if_pos hv1, if_pos c_23])]; exact XQ.tailv hw_42q (by omega) (by omega) R_5FK R_5XX R_39p.2.1)⟩ dX6_runPick_80 hlocks
    · skip
      refine lv_aload_n hx hb dX6_runPick_40 rfl (lv_at hl 1 rfl) ?_
      refine lv_iload_n hx hb dX6_runPick_41 rfl (lv_at hl 2 rfl) ?_
      have hC0 := hC
      refine c_ci (c_runV (As := [.int (nI n9)]) (rest := []) (q0 := 5) (ci := 6) ⟨hx, hb, hml, hown, htu⟩ (x_stuckAt l G S_7 (nI n9) hC  H) (cwV 1 htu hU_X6_128 rfl rfl rfl (by decide +kernel) ⟨show 0 + 1 ≤ 2 * fu + 7 by omega, show 8 + (2 + 11) + 0 ≤ 60 * fu + 230 by omega⟩) hP hK hD hC hpp cw_5 rfl rfl hl.1 rfl (lv_room (Nat.le_of_ble_eq_true rfl)) dX6_runPick_42) hS hD hh hpp (fun r_46 S_47 H locs hw_48 hP hD hS hC hh hs_49 hpp => ?_)
      try dsimp only at hw_48
      have aw_50 : AW [] [112] S_7 S_47 := hw_48.1
      have aw_50t : AW [27, 28, 29, 30, 31, 32, 33, 34] [111, 112] S S_47 := aw_10t.tr (aw_50.mono (by decide) (by decide))
      have tj_51 : TJ S_47 N := TJ.aw tj_11 aw_50 (by decide)
      exact c_iret (v := r_46) hx hb hr hK hP hD hS hC hh hpp ⟨aw_50t, (by rw [wmPick_2 R_5e R_5z, show wmPick2 tr (wmx tr mk al fu) R_5 n9 e9 R_5v = wmh R_5 1 n9 from if_neg (fun h => c_18 (by rw [h]; rfl))]; exact XQ.haltv ((aw_50.1 111 (by decide)).trans R_5R.1.2.2.2.2.1) hw_48.2.2 hw_48.2.1)⟩ dX6_runPick_45 hlocks
  · skip
    refine lv_iload hx hb dX6_runPick_24 (lv_at hl 0 rfl) ?_
    exact c_iret (v := r_6) hx hb hr hK hP hD hS hC hh hpp ⟨aw_10t, (by rw [wmPick_1 R_5e (ans_lt R_5a (fun z => by have h1 := R_5i z; have h2 := (R_5q z).choose_spec.1.sz; omega) c_13)]; exact XQ.stopv R_5b R_5pl R_5a (ans_lt R_5a (fun z => by have h1 := R_5i z; have h2 := (R_5q z).choose_spec.1.sz; omega) c_13))⟩ dX6_runPick_26 hlocks

set_option maxHeartbeats 4000000 in
set_option maxRecDepth 100000 in
/-- runField -/
theorem x_runField (l : Launch) (G : cG) (S : cS) (fu : Nat) (ws : wmS) (al : Nat) (f9 : Nat) (tr : aM) (N : Nat) (dp : Nat → Nat) (mk : Nat → Int32) (d9 : Nat) (n9 : Nat) (e9 : Nat) (hC : CL S) (ih : xRunAt fu) (hR : RCw S ws al f9) (hT : TJ S N) (hE : TC S tr mk N) (hWf : wmW tr N dp ws) (hTm : wmT tr N dp) (h0 : hlt ws = 0) (hn : n9 < N) (he : e9 ≤ ne ws) (hel : eln ws e9 ≤ dp n9) (hd : d9 + (fu + 1) = 61) (hc : wnv ws + 1 ≤ bgn ws ∧ ne ws + 1 ≤ bgn ws ∧ f9 + 6 ≤ 6 * bgn ws) (hk : tr 0 n9 = 6) (Hs : Heap) : Met l yX6_runField (wC yX6_runField cX6_runField 6 (some .int)) (cRm S (2 * fu + 7) (60 * fu + 230)) (cPc G S Hs [.ref (ga G 5), .int (nI n9), .int (sgt e9), .int (nI d9)]) (cQi G S Hs (fun v u => AW [27, 28, 29, 30, 31, 32, 33, 34] [111, 112] S u ∧ (XQ S u al f9 1 ws (wmField tr (wmx tr mk al fu) ws n9 e9) v))) (CC - PT S) (12 * (CC - PT S)) (cA G S Hs.size) := by
  refine Met.ofW (cc := cX6_runField) (maxL := 6) (ret := (some .int)) (by decide) rfl ?_
  intro p e s m args below meth c s₁ B hml hv
  obtain ⟨rfl, hsz, hP, hK, hD0, -⟩ := hv
  have hx := B.exec
  have hb := B.bytes
  have hr := B.returns
  have htu : ∀ w ∈ CU, w.before _ s = true := fun w h => atoms_spec (ws := (wC yX6_runField cX6_runField 6 (some .int))) B.pre w (List.mem_cons_of_mem _ h)
  have hown : s.vm.findClass RX6 = some m.cls := findClass_of_methodNamed B.named
  have hlocks := B.notSynchronized
  subst hsz
  have hD : cD (cA G S s.heap.size) G S := cD_self hD0
  have hl := lv_entry ([.ref (ga G 5), .int (nI n9), .int (sgt e9), .int (nI d9)]) (n := 6) (Nat.le_of_ble_eq_true rfl)
  rw [lg_entry_eq]
  generalize (lg_sl ([.ref (ga G 5), .int (nI n9), .int (sgt e9), .int (nI d9)]) ++ List.replicate (6 - (lg_sl ([.ref (ga G 5), .int (nI n9), .int (sgt e9), .int (nI d9)])).length) Slot.unset).toArray = ls at hl ⊢
  have hl : lv_has ls 6 [(0, .ref (ga G 5)), (1, .int (nI n9)), (2, .int (sgt e9)), (3, .int (nI d9))] := hl
  obtain ⟨H, hHe⟩ : ∃ H : Heap, H = s.heap := ⟨_, rfl⟩
  rw [← hHe] at hP
  have hS : va_S (cA G S s.heap.size) s.heap H [] := by rw [hHe]; exact va_S.rf
  have hh : HS S S := HS.rf
  have hpp : PT S ≤ PT S := Nat.le_refl _
  have hB9 := hC.1
  refine W.heq hHe ?_
  refine c_ent (S := S) ?_
  obtain ⟨hc1, hc2, hc3⟩ := id hc
  have hp9 : prts (tr 0 n9) (tr 2 n9) = 1 := by rw [hk]; rfl
  have hch0 : tr 10 n9 < N ∧ dp n9 + 1 ≤ dp (tr 10 n9) := (hTm.1 n9 hn).2.2 0 (by rw [hp9]; decide)
  refine lv_aload_n hx hb dX6_runField_0 rfl (lv_at hl 0 rfl) ?_
  refine lv_aload_n hx hb dX6_runField_1 rfl (lv_at hl 0 rfl) ?_
  refine va_get (D := gD G) (ci := 6) (v := .ref (ga G 1)) (C := RX6) (T := TX6) (N := 14) hx hb htu cu_in6 hown hK hP 5 cw_5 rfl 0 (by decide) (htu _ C_162) (fun _ h9 => h9) rfl dX6_runField_2 ?_
  refine lv_iload_n hx hb dX6_runField_5 rfl (lv_at hl 1 rfl) ?_
  refine lv_iconst (v := 0) hx hb dX6_runField_6 (by decide) ?_
  have hC0 := hC
  refine c_ci (c_runV (As := [.int (nI n9), .int 0]) (rest := [.ref (ga G 5)]) (q0 := 1) (ci := 3) ⟨hx, hb, hml, hown, htu⟩ (tt_partOf l G S N (nI n9) 0 hC hT.1 H) (cwV 2 htu hU_X6_134 rfl rfl rfl (by decide +kernel) ⟨show 1 + 1 ≤ 2 * fu + 7 by omega, show 8 + (3 + 11) + 21 ≤ 60 * fu + 230 by omega⟩) hP hK hD hC hpp cw_1 rfl rfl hl.1 rfl (lv_room (Nat.le_of_ble_eq_true rfl)) dX6_runField_7) hS hD hh hpp (fun r_1 S_2 H locs hw_3 hP hD hS hC hh hs_4 hpp => ?_)
  obtain ⟨-, hu9, hw_3⟩ := hw_3
  have hu9 := hu9.symm
  subst hu9
  obtain rfl : r_1 = nI (tr 10 n9) := hw_3.trans (TC.part hE hn (i := 0) (by rw [hp9]; decide))
  refine lv_iload_n hx hb dX6_runField_10 rfl (lv_at hl 2 rfl) ?_
  refine lv_iload_n hx hb dX6_runField_11 rfl (lv_at hl 3 rfl) ?_
  refine lv_iconst (v := 1) hx hb dX6_runField_12 (by decide) ?_
  refine lv_iadd hx hb dX6_runField_13 ?_
  refine m_top (y := nI (d9 + 1)) (nI_add d9 1) ?_
  have R_5n0 : tr 10 n9 < N := hch0.1
  have R_5e0 : e9 ≤ ne ws := (Nat.le_trans he (Xt.rf (s := ws)).2.1)
  have R_5l0 : eln ws e9 ≤ dp (tr 10 n9) := (by rw [(Xt.rf (s := ws)).eln he]; have := hch0.2; omega)
  have R_5b0 : bgn ws ≤ al := hR.sz.2.2.1
  have hC0 := hC
  refine c_ci (c_runV (As := [.int (nI (tr 10 n9)), .int (sgt e9), .int (nI (d9 + 1))]) (rest := []) (q0 := 5) (ci := 6) ⟨hx, hb, hml, hown, htu⟩ (ih l G S ws al f9 tr N dp mk (d9 + 1) (tr 10 n9) e9 hC hR hT hE hWf hTm h0 R_5n0 R_5e0 R_5l0 ((by omega)) H) (cwV 3 htu hU_X6_62 rfl rfl rfl (by decide +kernel) ⟨show (2 * fu + 6) + 1 ≤ 2 * fu + 7 by omega, show 8 + (4 + 11) + (60 * fu + 200) ≤ 60 * fu + 230 by omega⟩) hP hK hD hC hpp cw_5 rfl rfl hl.1 rfl (lv_room (Nat.le_of_ble_eq_true rfl)) dX6_runField_14) hS hD hh hpp (fun r_6 S_7 H locs hw_8 hP hD hS hC hh hs_9 hpp => ?_)
  try dsimp only at hw_8
  have aw_10 : AW [27, 28, 29, 30, 31, 32, 33, 34] [111, 112] S S_7 := hw_8.1
  have aw_10t : AW [27, 28, 29, 30, 31, 32, 33, 34] [111, 112] S S_7 := AW.rf.tr (aw_10.mono (by decide) (by decide))
  have tj_11 : TJ S_7 N := TJ.aw hT aw_10 (by decide)
  obtain ⟨R_5, R_5v, R_5e⟩ : ∃ a b, wmx tr mk al fu ws (tr 10 n9) e9 = (a, b) := ⟨_, _, rfl⟩
  have R_5p := wmx_ok hTm mk al fu ws (tr 10 n9) e9 hWf h0 R_5b0 R_5n0 R_5e0 R_5l0
  rw [R_5e] at R_5p
  obtain ⟨R_5W, R_5X, R_5c, R_5i⟩ := R_5p
  obtain ⟨R_5c1, R_5c2, R_5c3, R_5c4⟩ := R_5c
  dsimp only at R_5W R_5X R_5c1 R_5c2 R_5c3 R_5c4 R_5i
  have hw_8q := hw_8.2
  rw [R_5e] at hw_8q
  obtain ⟨R_5q, R_5b, R_5pl, R_5a⟩ := hw_8q
  dsimp only at R_5q R_5b R_5pl
  have te_12 : TC S_7 tr mk N := hE.aw aw_10 (by decide)
  refine lv_istore (lv' := [(4, .int r_6), (0, .ref (ga G 5)), (1, .int (nI n9)), (2, .int (sgt e9)), (3, .int (nI d9))]) hx hb dX6_runField_17 hl (by decide) rfl (fun ls hl => ?_)
  refine lv_iload hx hb dX6_runField_19 (lv_at hl 0 rfl) ?_
  refine lv_if_ge (tgt := 27) hx hb dX6_runField_21 (by decide) (fun c_13 => ?_) (fun c_13 => ?_)
  · skip
    have R_5z : hlt R_5 = 0 := ans_ge R_5a c_13
    obtain ⟨R_5f, R_5R, R_5f1, R_5f2, R_5K⟩ := R_5q R_5z
    have R_5y : r_6 = nI R_5v := R_5a.trans (ans_go R_5z)
    subst R_5y
    have R_5vi := R_5i R_5z
    have R_5FK : KP S S_7 f9 f9 ws R_5 := KP.trans KP.rf R_5K (by omega) (by omega) (Xt.rf (s := ws)) R_5X
    have R_5XX := (Xt.rf (s := ws)).tr R_5X
    refine lv_aload_n hx hb dX6_runField_27 rfl (lv_at hl 1 rfl) ?_
    refine va_get (D := gD G) (ci := 6) (v := .ref (kH S 27)) (C := RX6) (T := TX6) (N := 14) hx hb htu cu_in6 hown hK hP 5 cw_5 rfl 2 (by decide) (htu _ C_152) (fun _ h9 => h9) (c_hv (hh.2 27 (lt35 (by decide)))) dX6_runField_28 ?_
    refine lv_iload hx hb dX6_runField_31 (lv_at hl 0 rfl) ?_
    have hC0 := hC
    refine c_ci (c_runV (As := [.int (nI R_5v)]) (rest := []) (q0 := (2 * 27 + 13)) (ci := 0) ⟨hx, hb, hml, hown, htu⟩ (c_getA l G S_7 27 (lt35 (by decide)) hC (kH S 27) (hh.2 27 (lt35 (by decide))) (nI R_5v) H) (cwV 1 htu hU_X6_131 rfl rfl rfl (by decide +kernel) ⟨show 0 + 1 ≤ 2 * fu + 7 by omega, show 8 + (2 + 11) + 0 ≤ 60 * fu + 230 by omega⟩) hP hK hD hC hpp (c_hd (hh.2 27 (lt35 (by decide))) (cw_row (lt35 (by decide)))) rfl rfl hl.1 rfl (lv_room (Nat.le_of_ble_eq_true rfl)) dX6_runField_33) hS hD hh hpp (fun r_14 S_15 H locs hw_16 hP hD hS hC hh hs_17 hpp => ?_)
    obtain ⟨hu9, hw_16⟩ := hw_16
    have hu9 := hu9.symm
    subst hu9
    obtain rfl : r_14 = nI (vso R_5 R_5v) := hw_16.trans (R_5R.g27 R_5vi)
    refine lv_iconst (v := 3) hx hb dX6_runField_36 (by decide) ?_
    refine lv_icmp_eq (tgt := 46) hx hb dX6_runField_37 (by decide) (fun c_18 => ?_) (fun c_18 => ?_)
    · skip
      have hv3 : vso R_5 R_5v = 3 := (nI_eq (b := 3) (by have := (R_5W.1 _ R_5vi).1; omega) (by omega)).mp c_18
      obtain ⟨x1_, x2_, x3_, x4_⟩ := (R_5W.1 _ R_5vi).2.2 hv3
      obtain ⟨p9, hp_⟩ : ∃ p9, wmpl tr (vno R_5 R_5v) (tr 1 n9) (tr 2 (vno R_5 R_5v)) 0 = p9 := ⟨_, rfl⟩
      refine lv_aload_n hx hb dX6_runField_46 rfl (lv_at hl 1 rfl) ?_
      refine va_get (D := gD G) (ci := 6) (v := .ref (ga G 1)) (C := RX6) (T := TX6) (N := 14) hx hb htu cu_in6 hown hK hP 5 cw_5 rfl 0 (by decide) (htu _ C_162) (fun _ h9 => h9) rfl dX6_runField_47 ?_
      refine lv_aload_n hx hb dX6_runField_50 rfl (lv_at hl 1 rfl) ?_
      refine va_get (D := gD G) (ci := 6) (v := .ref (kH S 28)) (C := RX6) (T := TX6) (N := 14) hx hb htu cu_in6 hown hK hP 5 cw_5 rfl 3 (by decide) (htu _ C_153) (fun _ h9 => h9) (c_hv (hh.2 28 (lt35 (by decide)))) dX6_runField_51 ?_
      refine lv_iload hx hb dX6_runField_54 (lv_at hl 0 rfl) ?_
      have hC0 := hC
      refine c_ci (c_runV (As := [.int (nI R_5v)]) (rest := [.ref (ga G 1)]) (q0 := (2 * 28 + 13)) (ci := 0) ⟨hx, hb, hml, hown, htu⟩ (c_getA l G S_7 28 (lt35 (by decide)) hC (kH S 28) (hh.2 28 (lt35 (by decide))) (nI R_5v) H) (cwV 1 htu hU_X6_131 rfl rfl rfl (by decide +kernel) ⟨show 0 + 1 ≤ 2 * fu + 7 by omega, show 8 + (2 + 11) + 0 ≤ 60 * fu + 230 by omega⟩) hP hK hD hC hpp (c_hd (hh.2 28 (lt35 (by decide))) (cw_row (lt35 (by decide)))) rfl rfl hl.1 rfl (lv_room (Nat.le_of_ble_eq_true rfl)) dX6_runField_56) hS hD hh hpp (fun r_19 S_20 H locs hw_21 hP hD hS hC hh hs_22 hpp => ?_)
      obtain ⟨hu9, hw_21⟩ := hw_21
      have hu9 := hu9.symm
      subst hu9
      obtain rfl : r_19 = nI (vno R_5 R_5v) := hw_21.trans (R_5R.g28n R_5vi (Or.inr hv3))
      refine lv_aload_n hx hb dX6_runField_59 rfl (lv_at hl 1 rfl) ?_
      refine va_get (D := gD G) (ci := 6) (v := .ref (ga G 1)) (C := RX6) (T := TX6) (N := 14) hx hb htu cu_in6 hown hK hP 5 cw_5 rfl 0 (by decide) (htu _ C_162) (fun _ h9 => h9) rfl dX6_runField_60 ?_
      refine lv_iload_n hx hb dX6_runField_63 rfl (lv_at hl 2 rfl) ?_
      have hC0 := hC
      refine c_ci (c_runV (As := [.int (nI n9)]) (rest := [.int (nI (vno R_5 R_5v)), .ref (ga G 1)]) (q0 := 1) (ci := 3) ⟨hx, hb, hml, hown, htu⟩ (tt_markOf l G S_7 N (nI n9) hC tj_11.1 H) (cwV 1 htu hU_X6_94 rfl rfl rfl (by decide +kernel) ⟨show 1 + 1 ≤ 2 * fu + 7 by omega, show 8 + (2 + 11) + 21 ≤ 60 * fu + 230 by omega⟩) hP hK hD hC hpp cw_1 rfl rfl hl.1 rfl (lv_room (Nat.le_of_ble_eq_true rfl)) dX6_runField_64) hS hD hh hpp (fun r_23 S_24 H locs hw_25 hP hD hS hC hh hs_26 hpp => ?_)
      obtain ⟨-, hu9, hw_25⟩ := hw_25
      have hu9 := hu9.symm
      subst hu9
      obtain rfl : r_23 = nI (tr 1 n9) := hw_25.trans (TC.let te_12 hn (Or.inr (Or.inr (Or.inl hk))))
      have hC0 := hC
      refine c_ci (c_runV (As := [.int (nI (vno R_5 R_5v)), .int (nI (tr 1 n9))]) (rest := []) (q0 := 1) (ci := 3) ⟨hx, hb, hml, hown, htu⟩ (tt_placeOf l G S_7 N (nI (vno R_5 R_5v)) (nI (tr 1 n9)) hC tj_11.1 H) (cwV 2 htu hU_X6_147 rfl rfl rfl (by decide +kernel) ⟨show 2 + 1 ≤ 2 * fu + 7 by omega, show 8 + (5 + 11) + 43 ≤ 60 * fu + 230 by omega⟩) hP hK hD hC hpp cw_1 rfl rfl hl.1 rfl (lv_room (Nat.le_of_ble_eq_true rfl)) dX6_runField_67) hS hD hh hpp (fun r_27 S_28 H locs hw_29 hP hD hS hC hh hs_30 hpp => ?_)
      obtain ⟨-, hu9, hw_29⟩ := hw_29
      have hu9 := hu9.symm
      subst hu9
      have h67 : r_27 = if p9 < tr 2 (vno R_5 R_5v) then nI p9 else -9 := hw_29.trans (by rw [← hp_]; exact TC.place te_12 x1_ x2_ (hTm.2.2 n9 hn (Or.inr (Or.inr (Or.inl hk)))))
      refine lv_istore (lv' := [(5, .int r_27), (4, .int (nI R_5v)), (0, .ref (ga G 5)), (1, .int (nI n9)), (2, .int (sgt e9)), (3, .int (nI d9))]) hx hb dX6_runField_70 hl (by decide) rfl (fun ls hl => ?_)
      refine lv_iload hx hb dX6_runField_72 (lv_at hl 0 rfl) ?_
      refine lv_bipush (v := (-9)) hx hb dX6_runField_74 (by decide) ?_
      refine lv_icmp_ne (tgt := 87) hx hb dX6_runField_76 (by decide) (fun c_31 => ?_) (fun c_31 => ?_)
      · skip
        have hlt9 : p9 < tr 2 (vno R_5 R_5v) := Classical.byContradiction (fun z => c_31 (h67.trans (if_neg z)))
        obtain rfl : r_27 = nI p9 := h67.trans (if_pos hlt9)
        obtain ⟨b9, b1_, b2_, b3_⟩ := R_5R.g30 R_5vi hv3 (i := p9) (by rw [x3_]; exact hlt9)
        refine lv_aload_n hx hb dX6_runField_87 rfl (lv_at hl 2 rfl) ?_
        refine va_get (D := gD G) (ci := 6) (v := .ref (kH S 30)) (C := RX6) (T := TX6) (N := 14) hx hb htu cu_in6 hown hK hP 5 cw_5 rfl 5 (by decide) (htu _ C_155) (fun _ h9 => h9) (c_hv (hh.2 30 (lt35 (by decide)))) dX6_runField_88 ?_
        refine lv_aload_n hx hb dX6_runField_91 rfl (lv_at hl 2 rfl) ?_
        refine va_get (D := gD G) (ci := 6) (v := .ref (kH S 29)) (C := RX6) (T := TX6) (N := 14) hx hb htu cu_in6 hown hK hP 5 cw_5 rfl 4 (by decide) (htu _ C_154) (fun _ h9 => h9) (c_hv (hh.2 29 (lt35 (by decide)))) dX6_runField_92 ?_
        refine lv_iload hx hb dX6_runField_95 (lv_at hl 1 rfl) ?_
        have hC0 := hC
        refine c_ci (c_runV (As := [.int (nI R_5v)]) (rest := [.ref (kH S 30)]) (q0 := (2 * 29 + 13)) (ci := 0) ⟨hx, hb, hml, hown, htu⟩ (c_getA l G S_7 29 (lt35 (by decide)) hC (kH S 29) (hh.2 29 (lt35 (by decide))) (nI R_5v) H) (cwV 1 htu hU_X6_131 rfl rfl rfl (by decide +kernel) ⟨show 0 + 1 ≤ 2 * fu + 7 by omega, show 8 + (2 + 11) + 0 ≤ 60 * fu + 230 by omega⟩) hP hK hD hC hpp (c_hd (hh.2 29 (lt35 (by decide))) (cw_row (lt35 (by decide)))) rfl rfl hl.1 rfl (lv_room (Nat.le_of_ble_eq_true rfl)) dX6_runField_97) hS hD hh hpp (fun r_32 S_33 H locs hw_34 hP hD hS hC hh hs_35 hpp => ?_)
        obtain ⟨hu9, hw_34⟩ := hw_34
        have hu9 := hu9.symm
        subst hu9
        obtain rfl : r_32 = nI b9 := hw_34.trans b1_
        refine lv_iload hx hb dX6_runField_100 (lv_at hl 0 rfl) ?_
        refine lv_iadd hx hb dX6_runField_102 ?_
        refine m_top (y := nI (b9 + p9)) (nI_add b9 p9) ?_
        have hC0 := hC
        refine c_ci (c_runV (As := [.int (nI (b9 + p9))]) (rest := []) (q0 := (2 * 30 + 13)) (ci := 0) ⟨hx, hb, hml, hown, htu⟩ (c_getA l G S_7 30 (lt35 (by decide)) hC (kH S 30) (hh.2 30 (lt35 (by decide))) (nI (b9 + p9)) H) (cwV 1 htu hU_X6_131 rfl rfl rfl (by decide +kernel) ⟨show 0 + 1 ≤ 2 * fu + 7 by omega, show 8 + (2 + 11) + 0 ≤ 60 * fu + 230 by omega⟩) hP hK hD hC hpp (c_hd (hh.2 30 (lt35 (by decide))) (cw_row (lt35 (by decide)))) rfl rfl hl.1 rfl (lv_room (Nat.le_of_ble_eq_true rfl)) dX6_runField_103) hS hD hh hpp (fun r_36 S_37 H locs hw_38 hP hD hS hC hh hs_39 hpp => ?_)
        obtain ⟨hu9, hw_38⟩ := hw_38
        have hu9 := hu9.symm
        subst hu9
        obtain rfl : r_36 = nI ((R_5.2.2 R_5v).getD p9 0) := hw_38.trans b3_
        exact c_iret (v := nI ((R_5.2.2 R_5v).getD p9 0)) hx hb hr hK hP hD hS hC hh hpp ⟨aw_10t, (by rw [wmField_2 R_5e R_5z, show wmField2 tr R_5 n9 R_5v = (R_5, (R_5.2.2 R_5v).getD p9 0) from by (unfold wmField2; rw [if_pos hv3, hp_, if_pos hlt9])]; exact XQ.was R_5R R_5z (by omega) (by omega) R_5FK rfl)⟩ dX6_runField_106 hlocks
      · skip
        refine lv_aload_n hx hb dX6_runField_79 rfl (lv_at hl 2 rfl) ?_
        refine lv_iload_n hx hb dX6_runField_80 rfl (lv_at hl 3 rfl) ?_
        have hC0 := hC
        refine c_ci (c_runV (As := [.int (nI n9)]) (rest := []) (q0 := 5) (ci := 6) ⟨hx, hb, hml, hown, htu⟩ (x_stuckAt l G S_7 (nI n9) hC  H) (cwV 1 htu hU_X6_128 rfl rfl rfl (by decide +kernel) ⟨show 0 + 1 ≤ 2 * fu + 7 by omega, show 8 + (2 + 11) + 0 ≤ 60 * fu + 230 by omega⟩) hP hK hD hC hpp cw_5 rfl rfl hl.1 rfl (lv_room (Nat.le_of_ble_eq_true rfl)) dX6_runField_81) hS hD hh hpp (fun r_40 S_41 H locs hw_42 hP hD hS hC hh hs_43 hpp => ?_)
        try dsimp only at hw_42
        have aw_44 : AW [] [112] S_7 S_41 := hw_42.1
        have aw_44t : AW [27, 28, 29, 30, 31, 32, 33, 34] [111, 112] S S_41 := aw_10t.tr (aw_44.mono (by decide) (by decide))
        have tj_45 : TJ S_41 N := TJ.aw tj_11 aw_44 (by decide)
        refine lv_goto (tgt := 106) hx hb dX6_runField_84 (by decide) ?_
        exact c_iret (v := r_40) hx hb hr hK hP hD hS hC hh hpp ⟨aw_44t, (by rw [wmField_2 R_5e R_5z, show wmField2 tr R_5 n9 R_5v = wmh R_5 1 n9 from by (unfold wmField2; rw [if_pos hv3, hp_, if_neg (fun z => nI_neg (by decide) (by have := (hTm.1 _ x1_).2.1; omega) ((h67.trans (if_pos z)).symm.trans c_31))])]; exact XQ.haltv ((aw_44.1 111 (by decide)).trans R_5R.1.2.2.2.2.1) hw_42.2.2 hw_42.2.1)⟩ dX6_runField_106 hlocks
    · skip
      refine lv_aload_n hx hb dX6_runField_40 rfl (lv_at hl 1 rfl) ?_
      refine lv_iload_n hx hb dX6_runField_41 rfl (lv_at hl 2 rfl) ?_
      have hC0 := hC
      refine c_ci (c_runV (As := [.int (nI n9)]) (rest := []) (q0 := 5) (ci := 6) ⟨hx, hb, hml, hown, htu⟩ (x_stuckAt l G S_7 (nI n9) hC  H) (cwV 1 htu hU_X6_128 rfl rfl rfl (by decide +kernel) ⟨show 0 + 1 ≤ 2 * fu + 7 by omega, show 8 + (2 + 11) + 0 ≤ 60 * fu + 230 by omega⟩) hP hK hD hC hpp cw_5 rfl rfl hl.1 rfl (lv_room (Nat.le_of_ble_eq_true rfl)) dX6_runField_42) hS hD hh hpp (fun r_46 S_47 H locs hw_48 hP hD hS hC hh hs_49 hpp => ?_)
      try dsimp only at hw_48
      have aw_50 : AW [] [112] S_7 S_47 := hw_48.1
      have aw_50t : AW [27, 28, 29, 30, 31, 32, 33, 34] [111, 112] S S_47 := aw_10t.tr (aw_50.mono (by decide) (by decide))
      have tj_51 : TJ S_47 N := TJ.aw tj_11 aw_50 (by decide)
      exact c_iret (v := r_46) hx hb hr hK hP hD hS hC hh hpp ⟨aw_50t, (by rw [wmField_2 R_5e R_5z, show wmField2 tr R_5 n9 R_5v = wmh R_5 1 n9 from if_neg (fun h => c_18 (by rw [h]; rfl))]; exact XQ.haltv ((aw_50.1 111 (by decide)).trans R_5R.1.2.2.2.2.1) hw_48.2.2 hw_48.2.1)⟩ dX6_runField_45 hlocks
  · skip
    refine lv_iload hx hb dX6_runField_24 (lv_at hl 0 rfl) ?_
    exact c_iret (v := r_6) hx hb hr hK hP hD hS hC hh hpp ⟨aw_10t, (by rw [wmField_1 R_5e (ans_lt R_5a (fun z => by have h1 := R_5i z; have h2 := (R_5q z).choose_spec.1.sz; omega) c_13)]; exact XQ.stopv R_5b R_5pl R_5a (ans_lt R_5a (fun z => by have h1 := R_5i z; have h2 := (R_5q z).choose_spec.1.sz; omega) c_13))⟩ dX6_runField_26 hlocks

set_option maxHeartbeats 4000000 in
set_option maxRecDepth 100000 in
/-- runWholes -/
theorem x_runWholes (l : Launch) (G : cG) (S : cS) (fu : Nat) (ws : wmS) (al : Nat) (f9 : Nat) (tr : aM) (N : Nat) (dp : Nat → Nat) (mk : Nat → Int32) (d9 : Nat) (n9 : Nat) (e9 : Nat) (hC : CL S) (ih : xRunAt fu) (hR : RCw S ws al f9) (hT : TJ S N) (hE : TC S tr mk N) (hWf : wmW tr N dp ws) (hTm : wmT tr N dp) (h0 : hlt ws = 0) (hn : n9 < N) (he : e9 ≤ ne ws) (hel : eln ws e9 ≤ dp n9) (hd : d9 + (fu + 1) = 61) (hc : wnv ws + 1 ≤ bgn ws ∧ ne ws + 1 ≤ bgn ws ∧ f9 + 6 ≤ 6 * bgn ws) (hk : tr 0 n9 = 10 ∨ tr 0 n9 = 11) (Hs : Heap) : Met l yX6_runWholes (wC yX6_runWholes cX6_runWholes 8 (some .int)) (cRm S (2 * fu + 7) (60 * fu + 230)) (cPc G S Hs [.ref (ga G 5), .int (nI n9), .int (sgt e9), .int (nI d9)]) (cQi G S Hs (fun v u => AW [27, 28, 29, 30, 31, 32, 33, 34] [111, 112] S u ∧ (XQ S u al f9 1 ws (wmTwo tr (wmx tr mk al fu) ws n9 e9) v))) (CC - PT S) (12 * (CC - PT S)) (cA G S Hs.size) := by
  refine Met.ofW (cc := cX6_runWholes) (maxL := 8) (ret := (some .int)) (by decide) rfl ?_
  intro p e s m args below meth c s₁ B hml hv
  obtain ⟨rfl, hsz, hP, hK, hD0, -⟩ := hv
  have hx := B.exec
  have hb := B.bytes
  have hr := B.returns
  have htu : ∀ w ∈ CU, w.before _ s = true := fun w h => atoms_spec (ws := (wC yX6_runWholes cX6_runWholes 8 (some .int))) B.pre w (List.mem_cons_of_mem _ h)
  have hown : s.vm.findClass RX6 = some m.cls := findClass_of_methodNamed B.named
  have hlocks := B.notSynchronized
  subst hsz
  have hD : cD (cA G S s.heap.size) G S := cD_self hD0
  have hl := lv_entry ([.ref (ga G 5), .int (nI n9), .int (sgt e9), .int (nI d9)]) (n := 8) (Nat.le_of_ble_eq_true rfl)
  rw [lg_entry_eq]
  generalize (lg_sl ([.ref (ga G 5), .int (nI n9), .int (sgt e9), .int (nI d9)]) ++ List.replicate (8 - (lg_sl ([.ref (ga G 5), .int (nI n9), .int (sgt e9), .int (nI d9)])).length) Slot.unset).toArray = ls at hl ⊢
  have hl : lv_has ls 8 [(0, .ref (ga G 5)), (1, .int (nI n9)), (2, .int (sgt e9)), (3, .int (nI d9))] := hl
  obtain ⟨H, hHe⟩ : ∃ H : Heap, H = s.heap := ⟨_, rfl⟩
  rw [← hHe] at hP
  have hS : va_S (cA G S s.heap.size) s.heap H [] := by rw [hHe]; exact va_S.rf
  have hh : HS S S := HS.rf
  have hpp : PT S ≤ PT S := Nat.le_refl _
  have hB9 := hC.1
  refine W.heq hHe ?_
  refine c_ent (S := S) ?_
  obtain ⟨hc1, hc2, hc3⟩ := id hc
  have hp9 : prts (tr 0 n9) (tr 2 n9) = 2 := hk.elim prts_of.2.2.2.2.2.2.2.1 prts_of.2.2.2.2.2.2.2.2
  have hch0 : tr 10 n9 < N ∧ dp n9 + 1 ≤ dp (tr 10 n9) := (hTm.1 n9 hn).2.2 0 (by rw [hp9]; decide)
  have hch1 : tr 11 n9 < N ∧ dp n9 + 1 ≤ dp (tr 11 n9) := (hTm.1 n9 hn).2.2 1 (by rw [hp9]; decide)
  refine lv_aload_n hx hb dX6_runWholes_0 rfl (lv_at hl 0 rfl) ?_
  refine lv_aload_n hx hb dX6_runWholes_1 rfl (lv_at hl 0 rfl) ?_
  refine va_get (D := gD G) (ci := 6) (v := .ref (ga G 1)) (C := RX6) (T := TX6) (N := 14) hx hb htu cu_in6 hown hK hP 5 cw_5 rfl 0 (by decide) (htu _ C_162) (fun _ h9 => h9) rfl dX6_runWholes_2 ?_
  refine lv_iload_n hx hb dX6_runWholes_5 rfl (lv_at hl 1 rfl) ?_
  refine lv_iconst (v := 0) hx hb dX6_runWholes_6 (by decide) ?_
  have hC0 := hC
  refine c_ci (c_runV (As := [.int (nI n9), .int 0]) (rest := [.ref (ga G 5)]) (q0 := 1) (ci := 3) ⟨hx, hb, hml, hown, htu⟩ (tt_partOf l G S N (nI n9) 0 hC hT.1 H) (cwV 2 htu hU_X6_134 rfl rfl rfl (by decide +kernel) ⟨show 1 + 1 ≤ 2 * fu + 7 by omega, show 8 + (3 + 11) + 21 ≤ 60 * fu + 230 by omega⟩) hP hK hD hC hpp cw_1 rfl rfl hl.1 rfl (lv_room (Nat.le_of_ble_eq_true rfl)) dX6_runWholes_7) hS hD hh hpp (fun r_1 S_2 H locs hw_3 hP hD hS hC hh hs_4 hpp => ?_)
  obtain ⟨-, hu9, hw_3⟩ := hw_3
  have hu9 := hu9.symm
  subst hu9
  obtain rfl : r_1 = nI (tr 10 n9) := hw_3.trans (TC.part hE hn (i := 0) (by rw [hp9]; decide))
  refine lv_iload_n hx hb dX6_runWholes_10 rfl (lv_at hl 2 rfl) ?_
  refine lv_iload_n hx hb dX6_runWholes_11 rfl (lv_at hl 3 rfl) ?_
  refine lv_iconst (v := 1) hx hb dX6_runWholes_12 (by decide) ?_
  refine lv_iadd hx hb dX6_runWholes_13 ?_
  refine m_top (y := nI (d9 + 1)) (nI_add d9 1) ?_
  have R_5n0 : tr 10 n9 < N := hch0.1
  have R_5e0 : e9 ≤ ne ws := (Nat.le_trans he (Xt.rf (s := ws)).2.1)
  have R_5l0 : eln ws e9 ≤ dp (tr 10 n9) := (by rw [(Xt.rf (s := ws)).eln he]; have := hch0.2; omega)
  have R_5b0 : bgn ws ≤ al := hR.sz.2.2.1
  have hC0 := hC
  refine c_ci (c_runV (As := [.int (nI (tr 10 n9)), .int (sgt e9), .int (nI (d9 + 1))]) (rest := []) (q0 := 5) (ci := 6) ⟨hx, hb, hml, hown, htu⟩ (ih l G S ws al f9 tr N dp mk (d9 + 1) (tr 10 n9) e9 hC hR hT hE hWf hTm h0 R_5n0 R_5e0 R_5l0 ((by omega)) H) (cwV 3 htu hU_X6_62 rfl rfl rfl (by decide +kernel) ⟨show (2 * fu + 6) + 1 ≤ 2 * fu + 7 by omega, show 8 + (4 + 11) + (60 * fu + 200) ≤ 60 * fu + 230 by omega⟩) hP hK hD hC hpp cw_5 rfl rfl hl.1 rfl (lv_room (Nat.le_of_ble_eq_true rfl)) dX6_runWholes_14) hS hD hh hpp (fun r_6 S_7 H locs hw_8 hP hD hS hC hh hs_9 hpp => ?_)
  try dsimp only at hw_8
  have aw_10 : AW [27, 28, 29, 30, 31, 32, 33, 34] [111, 112] S S_7 := hw_8.1
  have aw_10t : AW [27, 28, 29, 30, 31, 32, 33, 34] [111, 112] S S_7 := AW.rf.tr (aw_10.mono (by decide) (by decide))
  have tj_11 : TJ S_7 N := TJ.aw hT aw_10 (by decide)
  obtain ⟨R_5, R_5v, R_5e⟩ : ∃ a b, wmx tr mk al fu ws (tr 10 n9) e9 = (a, b) := ⟨_, _, rfl⟩
  have R_5p := wmx_ok hTm mk al fu ws (tr 10 n9) e9 hWf h0 R_5b0 R_5n0 R_5e0 R_5l0
  rw [R_5e] at R_5p
  obtain ⟨R_5W, R_5X, R_5c, R_5i⟩ := R_5p
  obtain ⟨R_5c1, R_5c2, R_5c3, R_5c4⟩ := R_5c
  dsimp only at R_5W R_5X R_5c1 R_5c2 R_5c3 R_5c4 R_5i
  have hw_8q := hw_8.2
  rw [R_5e] at hw_8q
  obtain ⟨R_5q, R_5b, R_5pl, R_5a⟩ := hw_8q
  dsimp only at R_5q R_5b R_5pl
  have te_12 : TC S_7 tr mk N := hE.aw aw_10 (by decide)
  refine lv_istore (lv' := [(4, .int r_6), (0, .ref (ga G 5)), (1, .int (nI n9)), (2, .int (sgt e9)), (3, .int (nI d9))]) hx hb dX6_runWholes_17 hl (by decide) rfl (fun ls hl => ?_)
  refine lv_iload hx hb dX6_runWholes_19 (lv_at hl 0 rfl) ?_
  refine lv_if_ge (tgt := 27) hx hb dX6_runWholes_21 (by decide) (fun c_13 => ?_) (fun c_13 => ?_)
  · skip
    have R_5z : hlt R_5 = 0 := ans_ge R_5a c_13
    obtain ⟨R_5f, R_5R, R_5f1, R_5f2, R_5K⟩ := R_5q R_5z
    have R_5y : r_6 = nI R_5v := R_5a.trans (ans_go R_5z)
    subst R_5y
    have R_5vi := R_5i R_5z
    have R_5FK : KP S S_7 f9 f9 ws R_5 := KP.trans KP.rf R_5K (by omega) (by omega) (Xt.rf (s := ws)) R_5X
    have R_5XX := (Xt.rf (s := ws)).tr R_5X
    refine lv_aload_n hx hb dX6_runWholes_27 rfl (lv_at hl 1 rfl) ?_
    refine lv_aload_n hx hb dX6_runWholes_28 rfl (lv_at hl 1 rfl) ?_
    refine va_get (D := gD G) (ci := 6) (v := .ref (ga G 1)) (C := RX6) (T := TX6) (N := 14) hx hb htu cu_in6 hown hK hP 5 cw_5 rfl 0 (by decide) (htu _ C_162) (fun _ h9 => h9) rfl dX6_runWholes_29 ?_
    refine lv_iload_n hx hb dX6_runWholes_32 rfl (lv_at hl 2 rfl) ?_
    refine lv_iconst (v := 1) hx hb dX6_runWholes_33 (by decide) ?_
    have hC0 := hC
    refine c_ci (c_runV (As := [.int (nI n9), .int 1]) (rest := [.ref (ga G 5)]) (q0 := 1) (ci := 3) ⟨hx, hb, hml, hown, htu⟩ (tt_partOf l G S_7 N (nI n9) 1 hC tj_11.1 H) (cwV 2 htu hU_X6_134 rfl rfl rfl (by decide +kernel) ⟨show 1 + 1 ≤ 2 * fu + 7 by omega, show 8 + (3 + 11) + 21 ≤ 60 * fu + 230 by omega⟩) hP hK hD hC hpp cw_1 rfl rfl hl.1 rfl (lv_room (Nat.le_of_ble_eq_true rfl)) dX6_runWholes_34) hS hD hh hpp (fun r_14 S_15 H locs hw_16 hP hD hS hC hh hs_17 hpp => ?_)
    obtain ⟨-, hu9, hw_16⟩ := hw_16
    have hu9 := hu9.symm
    subst hu9
    obtain rfl : r_14 = nI (tr 11 n9) := hw_16.trans (TC.part te_12 hn (i := 1) (by rw [hp9]; decide))
    refine lv_iload_n hx hb dX6_runWholes_37 rfl (lv_at hl 3 rfl) ?_
    refine lv_iload_n hx hb dX6_runWholes_38 rfl (lv_at hl 4 rfl) ?_
    refine lv_iconst (v := 1) hx hb dX6_runWholes_39 (by decide) ?_
    refine lv_iadd hx hb dX6_runWholes_40 ?_
    refine m_top (y := nI (d9 + 1)) (nI_add d9 1) ?_
    have R_18n0 : tr 11 n9 < N := hch1.1
    have R_18e0 : e9 ≤ ne R_5 := (Nat.le_trans he R_5XX.2.1)
    have R_18l0 : eln R_5 e9 ≤ dp (tr 11 n9) := (by rw [R_5XX.eln he]; have := hch1.2; omega)
    have R_18b0 : bgn R_5 ≤ al := R_5R.sz.2.2.1
    have hC0 := hC
    refine c_ci (c_runV (As := [.int (nI (tr 11 n9)), .int (sgt e9), .int (nI (d9 + 1))]) (rest := []) (q0 := 5) (ci := 6) ⟨hx, hb, hml, hown, htu⟩ (ih l G S_7 R_5 al R_5f tr N dp mk (d9 + 1) (tr 11 n9) e9 hC R_5R tj_11 te_12 R_5W hTm R_5z R_18n0 R_18e0 R_18l0 ((by omega)) H) (cwV 3 htu hU_X6_62 rfl rfl rfl (by decide +kernel) ⟨show (2 * fu + 6) + 1 ≤ 2 * fu + 7 by omega, show 8 + (4 + 11) + (60 * fu + 200) ≤ 60 * fu + 230 by omega⟩) hP hK hD hC hpp cw_5 rfl rfl hl.1 rfl (lv_room (Nat.le_of_ble_eq_true rfl)) dX6_runWholes_41) hS hD hh hpp (fun r_19 S_20 H locs hw_21 hP hD hS hC hh hs_22 hpp => ?_)
    try dsimp only at hw_21
    have aw_23 : AW [27, 28, 29, 30, 31, 32, 33, 34] [111, 112] S_7 S_20 := hw_21.1
    have aw_23t : AW [27, 28, 29, 30, 31, 32, 33, 34] [111, 112] S S_20 := aw_10t.tr (aw_23.mono (by decide) (by decide))
    have tj_24 : TJ S_20 N := TJ.aw tj_11 aw_23 (by decide)
    obtain ⟨R_18, R_18v, R_18e⟩ : ∃ a b, wmx tr mk al fu R_5 (tr 11 n9) e9 = (a, b) := ⟨_, _, rfl⟩
    have R_18p := wmx_ok hTm mk al fu R_5 (tr 11 n9) e9 R_5W R_5z R_18b0 R_18n0 R_18e0 R_18l0
    rw [R_18e] at R_18p
    obtain ⟨R_18W, R_18X, R_18c, R_18i⟩ := R_18p
    obtain ⟨R_18c1, R_18c2, R_18c3, R_18c4⟩ := R_18c
    dsimp only at R_18W R_18X R_18c1 R_18c2 R_18c3 R_18c4 R_18i
    have hw_21q := hw_21.2
    rw [R_18e] at hw_21q
    obtain ⟨R_18q, R_18b, R_18pl, R_18a⟩ := hw_21q
    dsimp only at R_18q R_18b R_18pl
    have te_25 : TC S_20 tr mk N := te_12.aw aw_23 (by decide)
    refine lv_istore (lv' := [(5, .int r_19), (4, .int (nI R_5v)), (0, .ref (ga G 5)), (1, .int (nI n9)), (2, .int (sgt e9)), (3, .int (nI d9))]) hx hb dX6_runWholes_44 hl (by decide) rfl (fun ls hl => ?_)
    refine lv_iload hx hb dX6_runWholes_46 (lv_at hl 0 rfl) ?_
    refine lv_if_ge (tgt := 54) hx hb dX6_runWholes_48 (by decide) (fun c_26 => ?_) (fun c_26 => ?_)
    · skip
      have R_18z : hlt R_18 = 0 := ans_ge R_18a c_26
      obtain ⟨R_18f, R_18R, R_18f1, R_18f2, R_18K⟩ := R_18q R_18z
      have R_18y : r_19 = nI R_18v := R_18a.trans (ans_go R_18z)
      subst R_18y
      have R_18vi := R_18i R_18z
      have R_18FK : KP S S_20 f9 f9 ws R_18 := KP.trans R_5FK R_18K (by omega) (by omega) R_5XX R_18X
      have R_18XX := R_5XX.tr R_18X
      have hA : R_5v < wnv R_18 := Nat.lt_of_lt_of_le R_5vi R_18X.1
      refine lv_aload_n hx hb dX6_runWholes_54 rfl (lv_at hl 2 rfl) ?_
      refine va_get (D := gD G) (ci := 6) (v := .ref (kH S 27)) (C := RX6) (T := TX6) (N := 14) hx hb htu cu_in6 hown hK hP 5 cw_5 rfl 2 (by decide) (htu _ C_152) (fun _ h9 => h9) (c_hv (hh.2 27 (lt35 (by decide)))) dX6_runWholes_55 ?_
      refine lv_iload hx hb dX6_runWholes_58 (lv_at hl 1 rfl) ?_
      have hC0 := hC
      refine c_ci (c_runV (As := [.int (nI R_5v)]) (rest := []) (q0 := (2 * 27 + 13)) (ci := 0) ⟨hx, hb, hml, hown, htu⟩ (c_getA l G S_20 27 (lt35 (by decide)) hC (kH S 27) (hh.2 27 (lt35 (by decide))) (nI R_5v) H) (cwV 1 htu hU_X6_131 rfl rfl rfl (by decide +kernel) ⟨show 0 + 1 ≤ 2 * fu + 7 by omega, show 8 + (2 + 11) + 0 ≤ 60 * fu + 230 by omega⟩) hP hK hD hC hpp (c_hd (hh.2 27 (lt35 (by decide))) (cw_row (lt35 (by decide)))) rfl rfl hl.1 rfl (lv_room (Nat.le_of_ble_eq_true rfl)) dX6_runWholes_60) hS hD hh hpp (fun r_27 S_28 H locs hw_29 hP hD hS hC hh hs_30 hpp => ?_)
      obtain ⟨hu9, hw_29⟩ := hw_29
      have hu9 := hu9.symm
      subst hu9
      obtain rfl : r_27 = nI (vso R_18 R_5v) := hw_29.trans (R_18R.g27 hA)
      refine lv_if_ne (tgt := 78) hx hb dX6_runWholes_63 (by decide) (fun c_31 => ?_) (fun c_31 => ?_)
      · skip
        refine lv_aload_n hx hb dX6_runWholes_78 rfl (lv_at hl 2 rfl) ?_
        refine lv_iload_n hx hb dX6_runWholes_79 rfl (lv_at hl 3 rfl) ?_
        have hC0 := hC
        refine c_ci (c_runV (As := [.int (nI n9)]) (rest := []) (q0 := 5) (ci := 6) ⟨hx, hb, hml, hown, htu⟩ (x_stuckAt l G S_20 (nI n9) hC  H) (cwV 1 htu hU_X6_128 rfl rfl rfl (by decide +kernel) ⟨show 0 + 1 ≤ 2 * fu + 7 by omega, show 8 + (2 + 11) + 0 ≤ 60 * fu + 230 by omega⟩) hP hK hD hC hpp cw_5 rfl rfl hl.1 rfl (lv_room (Nat.le_of_ble_eq_true rfl)) dX6_runWholes_80) hS hD hh hpp (fun r_32 S_33 H locs hw_34 hP hD hS hC hh hs_35 hpp => ?_)
        try dsimp only at hw_34
        have aw_36 : AW [] [112] S_20 S_33 := hw_34.1
        have aw_36t : AW [27, 28, 29, 30, 31, 32, 33, 34] [111, 112] S S_33 := aw_23t.tr (aw_36.mono (by decide) (by decide))
        have tj_37 : TJ S_33 N := TJ.aw tj_24 aw_36 (by decide)
        exact c_iret (v := r_32) hx hb hr hK hP hD hS hC hh hpp ⟨aw_36t, (by rw [wmTwo_3 R_5e R_5z R_18e R_18z, show wmTwo3 tr R_18 n9 R_5v R_18v = wmh R_18 1 n9 from if_neg (fun h => c_31 (by rw [h.1]; rfl))]; exact XQ.haltv ((aw_36.1 111 (by decide)).trans R_18R.1.2.2.2.2.1) hw_34.2.2 hw_34.2.1)⟩ dX6_runWholes_83 hlocks
      · skip
        refine lv_aload_n hx hb dX6_runWholes_66 rfl (lv_at hl 2 rfl) ?_
        refine va_get (D := gD G) (ci := 6) (v := .ref (kH S 27)) (C := RX6) (T := TX6) (N := 14) hx hb htu cu_in6 hown hK hP 5 cw_5 rfl 2 (by decide) (htu _ C_152) (fun _ h9 => h9) (c_hv (hh.2 27 (lt35 (by decide)))) dX6_runWholes_67 ?_
        refine lv_iload hx hb dX6_runWholes_70 (lv_at hl 0 rfl) ?_
        have hC0 := hC
        refine c_ci (c_runV (As := [.int (nI R_18v)]) (rest := []) (q0 := (2 * 27 + 13)) (ci := 0) ⟨hx, hb, hml, hown, htu⟩ (c_getA l G S_20 27 (lt35 (by decide)) hC (kH S 27) (hh.2 27 (lt35 (by decide))) (nI R_18v) H) (cwV 1 htu hU_X6_131 rfl rfl rfl (by decide +kernel) ⟨show 0 + 1 ≤ 2 * fu + 7 by omega, show 8 + (2 + 11) + 0 ≤ 60 * fu + 230 by omega⟩) hP hK hD hC hpp (c_hd (hh.2 27 (lt35 (by decide))) (cw_row (lt35 (by decide)))) rfl rfl hl.1 rfl (lv_room (Nat.le_of_ble_eq_true rfl)) dX6_runWholes_72) hS hD hh hpp (fun r_38 S_39 H locs hw_40 hP hD hS hC hh hs_41 hpp => ?_)
        obtain ⟨hu9, hw_40⟩ := hw_40
        have hu9 := hu9.symm
        subst hu9
        obtain rfl : r_38 = nI (vso R_18 R_18v) := hw_40.trans (R_18R.g27 R_18vi)
        refine lv_if_eq (tgt := 84) hx hb dX6_runWholes_75 (by decide) (fun c_42 => ?_) (fun c_42 => ?_)
        · skip
          have hv0 : vso R_18 R_5v = 0 := (nI_eq (b := 0) (by have := (R_18W.1 _ hA).1; omega) (by omega)).mp c_31
          have hv1 : vso R_18 R_18v = 0 := (nI_eq (b := 0) (by have := (R_18W.1 _ R_18vi).1; omega) (by omega)).mp c_42
          refine lv_aload_n hx hb dX6_runWholes_84 rfl (lv_at hl 2 rfl) ?_
          refine va_get (D := gD G) (ci := 6) (v := .ref (kH S 28)) (C := RX6) (T := TX6) (N := 14) hx hb htu cu_in6 hown hK hP 5 cw_5 rfl 3 (by decide) (htu _ C_153) (fun _ h9 => h9) (c_hv (hh.2 28 (lt35 (by decide)))) dX6_runWholes_85 ?_
          refine lv_iload hx hb dX6_runWholes_88 (lv_at hl 1 rfl) ?_
          have hC0 := hC
          refine c_ci (c_runV (As := [.int (nI R_5v)]) (rest := []) (q0 := (2 * 28 + 13)) (ci := 0) ⟨hx, hb, hml, hown, htu⟩ (c_getA l G S_20 28 (lt35 (by decide)) hC (kH S 28) (hh.2 28 (lt35 (by decide))) (nI R_5v) H) (cwV 1 htu hU_X6_131 rfl rfl rfl (by decide +kernel) ⟨show 0 + 1 ≤ 2 * fu + 7 by omega, show 8 + (2 + 11) + 0 ≤ 60 * fu + 230 by omega⟩) hP hK hD hC hpp (c_hd (hh.2 28 (lt35 (by decide))) (cw_row (lt35 (by decide)))) rfl rfl hl.1 rfl (lv_room (Nat.le_of_ble_eq_true rfl)) dX6_runWholes_90) hS hD hh hpp (fun r_43 S_44 H locs hw_45 hP hD hS hC hh hs_46 hpp => ?_)
          obtain ⟨hu9, hw_45⟩ := hw_45
          have hu9 := hu9.symm
          subst hu9
          obtain rfl : r_43 = R_18.2.1 R_5v := hw_45.trans (R_18R.g28 hA (by omega))
          refine lv_istore (lv' := [(6, .int (R_18.2.1 R_5v)), (5, .int (nI R_18v)), (4, .int (nI R_5v)), (0, .ref (ga G 5)), (1, .int (nI n9)), (2, .int (sgt e9)), (3, .int (nI d9))]) hx hb dX6_runWholes_93 hl (by decide) rfl (fun ls hl => ?_)
          refine lv_aload_n hx hb dX6_runWholes_95 rfl (lv_at hl 3 rfl) ?_
          refine va_get (D := gD G) (ci := 6) (v := .ref (kH S 28)) (C := RX6) (T := TX6) (N := 14) hx hb htu cu_in6 hown hK hP 5 cw_5 rfl 3 (by decide) (htu _ C_153) (fun _ h9 => h9) (c_hv (hh.2 28 (lt35 (by decide)))) dX6_runWholes_96 ?_
          refine lv_iload hx hb dX6_runWholes_99 (lv_at hl 1 rfl) ?_
          have hC0 := hC
          refine c_ci (c_runV (As := [.int (nI R_18v)]) (rest := []) (q0 := (2 * 28 + 13)) (ci := 0) ⟨hx, hb, hml, hown, htu⟩ (c_getA l G S_20 28 (lt35 (by decide)) hC (kH S 28) (hh.2 28 (lt35 (by decide))) (nI R_18v) H) (cwV 1 htu hU_X6_131 rfl rfl rfl (by decide +kernel) ⟨show 0 + 1 ≤ 2 * fu + 7 by omega, show 8 + (2 + 11) + 0 ≤ 60 * fu + 230 by omega⟩) hP hK hD hC hpp (c_hd (hh.2 28 (lt35 (by decide))) (cw_row (lt35 (by decide)))) rfl rfl hl.1 rfl (lv_room (Nat.le_of_ble_eq_true rfl)) dX6_runWholes_101) hS hD hh hpp (fun r_47 S_48 H locs hw_49 hP hD hS hC hh hs_50 hpp => ?_)
          obtain ⟨hu9, hw_49⟩ := hw_49
          have hu9 := hu9.symm
          subst hu9
          obtain rfl : r_47 = R_18.2.1 R_18v := hw_49.trans (R_18R.g28 R_18vi (by omega))
          refine lv_istore (lv' := [(7, .int (R_18.2.1 R_18v)), (6, .int (R_18.2.1 R_5v)), (5, .int (nI R_18v)), (4, .int (nI R_5v)), (0, .ref (ga G 5)), (1, .int (nI n9)), (2, .int (sgt e9)), (3, .int (nI d9))]) hx hb dX6_runWholes_104 hl (by decide) rfl (fun ls hl => ?_)
          refine lv_aload_n hx hb dX6_runWholes_106 rfl (lv_at hl 4 rfl) ?_
          refine va_get (D := gD G) (ci := 6) (v := .ref (ga G 1)) (C := RX6) (T := TX6) (N := 14) hx hb htu cu_in6 hown hK hP 5 cw_5 rfl 0 (by decide) (htu _ C_162) (fun _ h9 => h9) rfl dX6_runWholes_107 ?_
          refine lv_iload_n hx hb dX6_runWholes_110 rfl (lv_at hl 5 rfl) ?_
          have hC0 := hC
          refine c_ci (c_runV (As := [.int (nI n9)]) (rest := []) (q0 := 1) (ci := 3) ⟨hx, hb, hml, hown, htu⟩ (tt_kindOf l G S_20 N (nI n9) hC tj_24.1 H) (cwV 1 htu hU_X6_88 rfl rfl rfl (by decide +kernel) ⟨show 1 + 1 ≤ 2 * fu + 7 by omega, show 8 + (2 + 11) + 21 ≤ 60 * fu + 230 by omega⟩) hP hK hD hC hpp cw_1 rfl rfl hl.1 rfl (lv_room (Nat.le_of_ble_eq_true rfl)) dX6_runWholes_111) hS hD hh hpp (fun r_51 S_52 H locs hw_53 hP hD hS hC hh hs_54 hpp => ?_)
          obtain ⟨-, hu9, hw_53⟩ := hw_53
          have hu9 := hu9.symm
          subst hu9
          obtain rfl : r_51 = nI (tr 0 n9) := hw_53.trans (te_25.kind hn)
          refine lv_bipush (v := 10) hx hb dX6_runWholes_114 (by decide) ?_
          refine lv_icmp_ne (tgt := 132) hx hb dX6_runWholes_116 (by decide) (fun c_55 => ?_) (fun c_55 => ?_)
          · skip
            refine lv_aload_n hx hb dX6_runWholes_132 rfl (lv_at hl 4 rfl) ?_
            refine lv_iconst (v := 1) hx hb dX6_runWholes_133 (by decide) ?_
            refine lv_iload hx hb dX6_runWholes_134 (lv_at hl 1 rfl) ?_
            refine lv_iload hx hb dX6_runWholes_136 (lv_at hl 0 rfl) ?_
            refine lv_icmp_ge (tgt := 145) hx hb dX6_runWholes_138 (by decide) (fun c_56 => ?_) (fun c_56 => ?_)
            · skip
              refine lv_iconst (v := 0) hx hb dX6_runWholes_145 (by decide) ?_
              refine lv_bipush (v := (-9)) hx hb dX6_runWholes_146 (by decide) ?_
              have va_57l : wnv R_18 + 1 ≤ bgn R_18 := by omega
              have va_57s := R_18R.sz
              have hC0 := hC
              refine c_ci (c_runV (As := [.int 1, .int 0, .int ((-9))]) (rest := []) (q0 := 5) (ci := 6) ⟨hx, hb, hml, hown, htu⟩ (x_addValue l G S_20 (wnv R_18) 1 0 ((-9)) hC R_18R.1.1.1 R_18R.1.1.2.1 R_18R.1.1.2.2 ((by omega)) H) (cwV 3 htu hU_X6_97 rfl rfl rfl (by decide +kernel) ⟨show 3 + 1 ≤ 2 * fu + 7 by omega, show 8 + (4 + 11) + 103 ≤ 60 * fu + 230 by omega⟩) hP hK hD hC hpp cw_5 rfl rfl hl.1 rfl (lv_room (Nat.le_of_ble_eq_true rfl)) dX6_runWholes_148) hS hD hh hpp (fun r_58 S_59 H locs hw_60 hP hD hS hC hh hs_61 hpp => ?_)
              try dsimp only at hw_60
              have aw_62 : AW [27, 28, 29] [] S_20 S_59 := hw_60.1
              have aw_62t : AW [27, 28, 29, 30, 31, 32, 33, 34] [111, 112] S S_59 := aw_23t.tr (aw_62.mono (by decide) (by decide))
              have tj_63 : TJ S_59 N := TJ.aw tj_24 aw_62 (by decide)
              exact c_iret (v := r_58) hx hb hr hK hP hD hS hC hh hpp ⟨aw_62t, (by rw [wmTwo_3 R_5e R_5z R_18e R_18z, show wmTwo3 tr R_18 n9 R_5v R_18v = wmv R_18 1 0 0 (if R_18.2.1 R_5v < R_18.2.1 R_18v then (1 : Int32) else 0) [] from by (unfold wmTwo3; rw [if_pos ⟨hv0, hv1⟩, if_neg (fun z => c_55 (by rw [z]; rfl))])]; exact XQ.valv (RCw.val (so := 1) (n := 0) (e := 0) (x := if R_18.2.1 R_5v < R_18.2.1 R_18v then (1 : Int32) else 0) (fs := []) R_18R aw_62 hw_60.2.1 hw_60.2.2.1 va_57l rfl (fun _ => (if_neg (Int32.not_lt.mpr c_56)).symm) (fun z => absurd z (by decide)) (fun z => absurd z (by decide))) R_18z (by omega) (by omega) (KP.val R_18FK aw_62 hw_60.2.2.1 R_18XX (fun z => absurd z (by decide))) hw_60.2.2.2)⟩ dX6_runWholes_151 hlocks
            · skip
              refine lv_iconst (v := 1) hx hb dX6_runWholes_141 (by decide) ?_
              refine lv_goto (tgt := 146) hx hb dX6_runWholes_142 (by decide) ?_
              refine lv_bipush (v := (-9)) hx hb dX6_runWholes_146 (by decide) ?_
              have va_64l : wnv R_18 + 1 ≤ bgn R_18 := by omega
              have va_64s := R_18R.sz
              have hC0 := hC
              refine c_ci (c_runV (As := [.int 1, .int 1, .int ((-9))]) (rest := []) (q0 := 5) (ci := 6) ⟨hx, hb, hml, hown, htu⟩ (x_addValue l G S_20 (wnv R_18) 1 1 ((-9)) hC R_18R.1.1.1 R_18R.1.1.2.1 R_18R.1.1.2.2 ((by omega)) H) (cwV 3 htu hU_X6_97 rfl rfl rfl (by decide +kernel) ⟨show 3 + 1 ≤ 2 * fu + 7 by omega, show 8 + (4 + 11) + 103 ≤ 60 * fu + 230 by omega⟩) hP hK hD hC hpp cw_5 rfl rfl hl.1 rfl (lv_room (Nat.le_of_ble_eq_true rfl)) dX6_runWholes_148) hS hD hh hpp (fun r_65 S_66 H locs hw_67 hP hD hS hC hh hs_68 hpp => ?_)
              try dsimp only at hw_67
              have aw_69 : AW [27, 28, 29] [] S_20 S_66 := hw_67.1
              have aw_69t : AW [27, 28, 29, 30, 31, 32, 33, 34] [111, 112] S S_66 := aw_23t.tr (aw_69.mono (by decide) (by decide))
              have tj_70 : TJ S_66 N := TJ.aw tj_24 aw_69 (by decide)
              exact c_iret (v := r_65) hx hb hr hK hP hD hS hC hh hpp ⟨aw_69t, (by rw [wmTwo_3 R_5e R_5z R_18e R_18z, show wmTwo3 tr R_18 n9 R_5v R_18v = wmv R_18 1 0 0 (if R_18.2.1 R_5v < R_18.2.1 R_18v then (1 : Int32) else 0) [] from by (unfold wmTwo3; rw [if_pos ⟨hv0, hv1⟩, if_neg (fun z => c_55 (by rw [z]; rfl))])]; exact XQ.valv (RCw.val (so := 1) (n := 0) (e := 0) (x := if R_18.2.1 R_5v < R_18.2.1 R_18v then (1 : Int32) else 0) (fs := []) R_18R aw_69 hw_67.2.1 hw_67.2.2.1 va_64l rfl (fun _ => (if_pos (Int32.not_le.mp c_56)).symm) (fun z => absurd z (by decide)) (fun z => absurd z (by decide))) R_18z (by omega) (by omega) (KP.val R_18FK aw_69 hw_67.2.2.1 R_18XX (fun z => absurd z (by decide))) hw_67.2.2.2)⟩ dX6_runWholes_151 hlocks
          · skip
            refine lv_aload_n hx hb dX6_runWholes_119 rfl (lv_at hl 4 rfl) ?_
            refine lv_iconst (v := 0) hx hb dX6_runWholes_120 (by decide) ?_
            refine lv_iload hx hb dX6_runWholes_121 (lv_at hl 1 rfl) ?_
            refine lv_iload hx hb dX6_runWholes_123 (lv_at hl 0 rfl) ?_
            refine lv_iadd hx hb dX6_runWholes_125 ?_
            refine lv_topi (fun f_71 ef_71 => ?_)
            refine lv_bipush (v := (-9)) hx hb dX6_runWholes_126 (by decide) ?_
            have va_72l : wnv R_18 + 1 ≤ bgn R_18 := by omega
            have va_72s := R_18R.sz
            have hC0 := hC
            refine c_ci (c_runV (As := [.int 0, .int f_71, .int ((-9))]) (rest := []) (q0 := 5) (ci := 6) ⟨hx, hb, hml, hown, htu⟩ (x_addValue l G S_20 (wnv R_18) 0 f_71 ((-9)) hC R_18R.1.1.1 R_18R.1.1.2.1 R_18R.1.1.2.2 ((by omega)) H) (cwV 3 htu hU_X6_97 rfl rfl rfl (by decide +kernel) ⟨show 3 + 1 ≤ 2 * fu + 7 by omega, show 8 + (4 + 11) + 103 ≤ 60 * fu + 230 by omega⟩) hP hK hD hC hpp cw_5 rfl rfl hl.1 rfl (lv_room (Nat.le_of_ble_eq_true rfl)) dX6_runWholes_128) hS hD hh hpp (fun r_73 S_74 H locs hw_75 hP hD hS hC hh hs_76 hpp => ?_)
            try dsimp only at hw_75
            have aw_77 : AW [27, 28, 29] [] S_20 S_74 := hw_75.1
            have aw_77t : AW [27, 28, 29, 30, 31, 32, 33, 34] [111, 112] S S_74 := aw_23t.tr (aw_77.mono (by decide) (by decide))
            have tj_78 : TJ S_74 N := TJ.aw tj_24 aw_77 (by decide)
            exact c_iret (v := r_73) hx hb hr hK hP hD hS hC hh hpp ⟨aw_77t, (by rw [wmTwo_3 R_5e R_5z R_18e R_18z, show wmTwo3 tr R_18 n9 R_5v R_18v = wmv R_18 0 0 0 (R_18.2.1 R_5v + R_18.2.1 R_18v) [] from by (unfold wmTwo3; rw [if_pos ⟨hv0, hv1⟩, if_pos ((nI_eq (a := tr 0 n9) (b := 10) (by have := (hTm.1 n9 hn).1; omega) (by omega)).mp c_55)])]; exact XQ.valv (RCw.val (so := 0) (n := 0) (e := 0) (x := R_18.2.1 R_5v + R_18.2.1 R_18v) (fs := []) R_18R aw_77 hw_75.2.1 hw_75.2.2.1 va_72l rfl (fun _ => by first | exact ef_71 | exact ef_71.symm) (fun z => absurd z (by decide)) (fun z => absurd z (by decide))) R_18z (by omega) (by omega) (KP.val R_18FK aw_77 hw_75.2.2.1 R_18XX (fun z => absurd z (by decide))) hw_75.2.2.2)⟩ dX6_runWholes_131 hlocks
        · skip
          refine lv_aload_n hx hb dX6_runWholes_78 rfl (lv_at hl 2 rfl) ?_
          refine lv_iload_n hx hb dX6_runWholes_79 rfl (lv_at hl 3 rfl) ?_
          have hC0 := hC
          refine c_ci (c_runV (As := [.int (nI n9)]) (rest := []) (q0 := 5) (ci := 6) ⟨hx, hb, hml, hown, htu⟩ (x_stuckAt l G S_20 (nI n9) hC  H) (cwV 1 htu hU_X6_128 rfl rfl rfl (by decide +kernel) ⟨show 0 + 1 ≤ 2 * fu + 7 by omega, show 8 + (2 + 11) + 0 ≤ 60 * fu + 230 by omega⟩) hP hK hD hC hpp cw_5 rfl rfl hl.1 rfl (lv_room (Nat.le_of_ble_eq_true rfl)) dX6_runWholes_80) hS hD hh hpp (fun r_79 S_80 H locs hw_81 hP hD hS hC hh hs_82 hpp => ?_)
          try dsimp only at hw_81
          have aw_83 : AW [] [112] S_20 S_80 := hw_81.1
          have aw_83t : AW [27, 28, 29, 30, 31, 32, 33, 34] [111, 112] S S_80 := aw_23t.tr (aw_83.mono (by decide) (by decide))
          have tj_84 : TJ S_80 N := TJ.aw tj_24 aw_83 (by decide)
          exact c_iret (v := r_79) hx hb hr hK hP hD hS hC hh hpp ⟨aw_83t, (by rw [wmTwo_3 R_5e R_5z R_18e R_18z, show wmTwo3 tr R_18 n9 R_5v R_18v = wmh R_18 1 n9 from if_neg (fun h => c_42 (by rw [h.2]; rfl))]; exact XQ.haltv ((aw_83.1 111 (by decide)).trans R_18R.1.2.2.2.2.1) hw_81.2.2 hw_81.2.1)⟩ dX6_runWholes_83 hlocks
    · skip
      refine lv_iload hx hb dX6_runWholes_51 (lv_at hl 0 rfl) ?_
      exact c_iret (v := r_19) hx hb hr hK hP hD hS hC hh hpp ⟨aw_23t, (by rw [wmTwo_2 R_5e R_5z R_18e (ans_lt R_18a (fun z => by have h1 := R_18i z; have h2 := (R_18q z).choose_spec.1.sz; omega) c_26)]; exact XQ.stopv R_18b R_18pl R_18a (ans_lt R_18a (fun z => by have h1 := R_18i z; have h2 := (R_18q z).choose_spec.1.sz; omega) c_26))⟩ dX6_runWholes_53 hlocks
  · skip
    refine lv_iload hx hb dX6_runWholes_24 (lv_at hl 0 rfl) ?_
    exact c_iret (v := r_6) hx hb hr hK hP hD hS hC hh hpp ⟨aw_10t, (by rw [wmTwo_1 R_5e (ans_lt R_5a (fun z => by have h1 := R_5i z; have h2 := (R_5q z).choose_spec.1.sz; omega) c_13)]; exact XQ.stopv R_5b R_5pl R_5a (ans_lt R_5a (fun z => by have h1 := R_5i z; have h2 := (R_5q z).choose_spec.1.sz; omega) c_13))⟩ dX6_runWholes_26 hlocks

set_option maxHeartbeats 4000000 in
set_option maxRecDepth 100000 in
/-- runRecord -/
theorem x_runRecord (l : Launch) (G : cG) (S : cS) (fu : Nat) (ws : wmS) (al : Nat) (f9 : Nat) (tr : aM) (N : Nat) (dp : Nat → Nat) (mk : Nat → Int32) (d9 : Nat) (n9 : Nat) (e9 : Nat) (hC : CL S) (ih : xRunAt fu) (hR : RCw S ws al f9) (hT : TJ S N) (hE : TC S tr mk N) (hWf : wmW tr N dp ws) (hTm : wmT tr N dp) (h0 : hlt ws = 0) (hn : n9 < N) (he : e9 ≤ ne ws) (hel : eln ws e9 ≤ dp n9) (hd : d9 + (fu + 1) = 61) (hc : wnv ws + 1 ≤ bgn ws ∧ ne ws + 1 ≤ bgn ws ∧ f9 + 6 ≤ 6 * bgn ws) (hk : tr 0 n9 = 5) (Hs : Heap) : Met l yX6_runRecord (wC yX6_runRecord cX6_runRecord 8 (some .int)) (cRm S (2 * fu + 7) (60 * fu + 230)) (cPc G S Hs [.ref (ga G 5), .int (nI n9), .int (sgt e9), .int (nI d9)]) (cQi G S Hs (fun v u => AW [27, 28, 29, 30, 31, 32, 33, 34] [111, 112] S u ∧ (XQ S u al f9 1 ws (wmRecord tr (wmx tr mk al fu) ws n9 e9) v))) (CC - PT S) (12 * (CC - PT S)) (cA G S Hs.size) := by
  refine Met.ofW (cc := cX6_runRecord) (maxL := 8) (ret := (some .int)) (by decide) rfl ?_
  intro p e s m args below meth c s₁ B hml hv
  obtain ⟨rfl, hsz, hP, hK, hD0, -⟩ := hv
  have hx := B.exec
  have hb := B.bytes
  have hr := B.returns
  have htu : ∀ w ∈ CU, w.before _ s = true := fun w h => atoms_spec (ws := (wC yX6_runRecord cX6_runRecord 8 (some .int))) B.pre w (List.mem_cons_of_mem _ h)
  have hown : s.vm.findClass RX6 = some m.cls := findClass_of_methodNamed B.named
  have hlocks := B.notSynchronized
  subst hsz
  have hD : cD (cA G S s.heap.size) G S := cD_self hD0
  have hl := lv_entry ([.ref (ga G 5), .int (nI n9), .int (sgt e9), .int (nI d9)]) (n := 8) (Nat.le_of_ble_eq_true rfl)
  rw [lg_entry_eq]
  generalize (lg_sl ([.ref (ga G 5), .int (nI n9), .int (sgt e9), .int (nI d9)]) ++ List.replicate (8 - (lg_sl ([.ref (ga G 5), .int (nI n9), .int (sgt e9), .int (nI d9)])).length) Slot.unset).toArray = ls at hl ⊢
  have hl : lv_has ls 8 [(0, .ref (ga G 5)), (1, .int (nI n9)), (2, .int (sgt e9)), (3, .int (nI d9))] := hl
  obtain ⟨H, hHe⟩ : ∃ H : Heap, H = s.heap := ⟨_, rfl⟩
  rw [← hHe] at hP
  have hS : va_S (cA G S s.heap.size) s.heap H [] := by rw [hHe]; exact va_S.rf
  have hh : HS S S := HS.rf
  have hpp : PT S ≤ PT S := Nat.le_refl _
  have hB9 := hC.1
  refine W.heq hHe ?_
  refine c_ent (S := S) ?_
  obtain ⟨hc1, hc2, hc3⟩ := id hc
  have hp9 : prts (tr 0 n9) (tr 2 n9) = tr 2 n9 := prts_of.2.2.1 hk
  have h26 : tr 2 n9 ≤ 6 := (hTm.1 n9 hn).2.1
  have hsz := hR.sz
  refine lv_aload_n hx hb dX6_runRecord_0 rfl (lv_at hl 0 rfl) ?_
  refine va_get (D := gD G) (ci := 6) (v := .ref (kH S 30)) (C := RX6) (T := TX6) (N := 14) hx hb htu cu_in6 hown hK hP 5 cw_5 rfl 5 (by decide) (htu _ C_155) (fun _ h9 => h9) rfl dX6_runRecord_1 ?_
  refine va_get (D := gD G) (ci := 0) (v := .int (nI f9)) (C := RX0) (T := TX0) (N := 2) hx hb htu cu_in0 hown hK hP (2 * 30 + 13) (c_hd rfl (cw_row (lt35 (by decide)))) rfl 1 (by decide) (htu _ C_556) (fun _ h9 => h9) (m_v (congrArg nI hR.1.2.1)) dX6_runRecord_4 ?_
  refine lv_istore (lv' := [(4, .int (nI f9)), (0, .ref (ga G 5)), (1, .int (nI n9)), (2, .int (sgt e9)), (3, .int (nI d9))]) hx hb dX6_runRecord_7 hl (by decide) rfl (fun ls hl => ?_)
  refine lv_aload_n hx hb dX6_runRecord_9 rfl (lv_at hl 1 rfl) ?_
  refine va_get (D := gD G) (ci := 6) (v := .ref (ga G 1)) (C := RX6) (T := TX6) (N := 14) hx hb htu cu_in6 hown hK hP 5 cw_5 rfl 0 (by decide) (htu _ C_162) (fun _ h9 => h9) rfl dX6_runRecord_10 ?_
  refine lv_iload_n hx hb dX6_runRecord_13 rfl (lv_at hl 2 rfl) ?_
  have hC0 := hC
  refine c_ci (c_runV (As := [.int (nI n9)]) (rest := []) (q0 := 1) (ci := 3) ⟨hx, hb, hml, hown, htu⟩ (tt_partCount l G S N (nI n9) hC hT.1 H) (cwV 1 htu hU_X6_141 rfl rfl rfl (by decide +kernel) ⟨show 1 + 1 ≤ 2 * fu + 7 by omega, show 8 + (2 + 11) + 21 ≤ 60 * fu + 230 by omega⟩) hP hK hD hC hpp cw_1 rfl rfl hl.1 rfl (lv_room (Nat.le_of_ble_eq_true rfl)) dX6_runRecord_14) hS hD hh hpp (fun r_1 S_2 H locs hw_3 hP hD hS hC hh hs_4 hpp => ?_)
  obtain ⟨-, hu9, hw_3⟩ := hw_3
  have hu9 := hu9.symm
  subst hu9
  obtain rfl : r_1 = nI (tr 2 n9) := hw_3.trans (hE.cnt hn)
  refine lv_istore (lv' := [(5, .int (nI (tr 2 n9))), (4, .int (nI f9)), (0, .ref (ga G 5)), (1, .int (nI n9)), (2, .int (sgt e9)), (3, .int (nI d9))]) hx hb dX6_runRecord_17 hl (by decide) rfl (fun ls hl => ?_)
  refine lv_iconst (v := 0) hx hb dX6_runRecord_19 (by decide) ?_
  refine lv_istore (lv' := [(6, .int 0), (5, .int (nI (tr 2 n9))), (4, .int (nI f9)), (0, .ref (ga G 5)), (1, .int (nI n9)), (2, .int (sgt e9)), (3, .int (nI d9))]) hx hb dX6_runRecord_20 hl (by decide) rfl (fun ls hl => ?_)
  refine w_loop (fun j H locs k sl g => ∃ (S1 : cS) (i : Nat) (ls : Array Slot), CL S1 ∧ HS S S1 ∧ PT S ≤ PT S1 ∧ AW [27, 28, 29, 30, 31, 32, 33, 34] [111, 112] S S1 ∧ i + j = tr 2 n9 ∧ RCw S1 ws al (f9 + i) ∧ KP S S1 f9 f9 ws ws ∧ k = PT S1 - PT S ∧ sl = 12 * (PT S1 - PT S) ∧ cP G S1 H ∧ cD (cA G S s.heap.size) G S1 ∧ va_S (cA G S s.heap.size) s.heap H locs ∧ lv_has ls 8 [(0, .ref (ga G 5)), (1, .int (nI n9)), (2, .int (sgt e9)), (3, .int (nI d9)), (4, .int (nI f9)), (5, .int (nI (tr 2 n9))), (6, .int (nI i))] ∧ g = F0 m 22 ls []) ?_ ?_ ((tr 2 n9)) _ _ _ _ _ ⟨S, 0, ls, hC, hh, hpp, AW.rf, by omega, hR, KP.rf, rfl, rfl, hP, hD, hS, lv_sub hl [3, 4, 5, 6, 2, 1, 0] rfl, rfl⟩
  · intro H locs k sl g hI
    obtain ⟨S1, i, ls, hC, hh, hpp, hAW, hp0, hp1, hp2, rfl, rfl, hP, hD, hS, hl, rfl⟩ := hI
    have tj1 : TJ S1 N := TJ.aw hT hAW (by decide)
    have te1 : TC S1 tr mk N := hE.aw hAW (by decide)
    refine lv_iload hx hb dX6_runRecord_22 (lv_at hl 6 rfl) ?_
    refine lv_iload hx hb dX6_runRecord_24 (lv_at hl 5 rfl) ?_
    refine lv_icmp_ge (tgt := 44) hx hb dX6_runRecord_26 (by decide) (fun c_5 => ?_) (fun c_5 => absurd ((nI_leI (a := tr 2 n9) (b := i) (by omega) (by omega)).mpr (by omega)) c_5)
    refine lv_iconst (v := 0) hx hb dX6_runRecord_44 (by decide) ?_
    refine lv_istore (lv' := [(6, .int 0), (0, .ref (ga G 5)), (1, .int (nI n9)), (2, .int (sgt e9)), (3, .int (nI d9)), (4, .int (nI f9)), (5, .int (nI (tr 2 n9)))]) hx hb dX6_runRecord_45 hl (by decide) rfl (fun ls hl => ?_)
    refine w_loop (fun j H locs k sl g => ∃ (S2 : cS) (s2 : wmS) (f2 : Nat) (vs : List Nat) (i7 : Nat) (ls : Array Slot), CL S2 ∧ HS S S2 ∧ PT S ≤ PT S2 ∧ AW [27, 28, 29, 30, 31, 32, 33, 34] [111, 112] S S2 ∧ i7 + j = tr 2 n9 ∧ RCw S2 s2 al f2 ∧ (wmW tr N dp s2 ∧ hlt s2 = 0 ∧ Xt ws s2 ∧ wmC al ws s2 0) ∧ (f9 + tr 2 n9 ≤ f2 ∧ f2 + 6 * bgn ws ≤ f9 + 6 + 6 * bgn s2) ∧ KP S S2 f9 (f9 + tr 2 n9) ws s2 ∧ (vs.length = i7 ∧ ∀ q, q < i7 → kF S2 30 (f9 + q) = nI (vs.getD q 0)) ∧ wmRI tr (wmx tr mk al fu) ws n9 e9 s2 vs i7 ∧ k = PT S2 - PT S ∧ sl = 12 * (PT S2 - PT S) ∧ cP G S2 H ∧ cD (cA G S s.heap.size) G S2 ∧ va_S (cA G S s.heap.size) s.heap H locs ∧ lv_has ls 8 [(0, .ref (ga G 5)), (1, .int (nI n9)), (2, .int (sgt e9)), (3, .int (nI d9)), (4, .int (nI f9)), (5, .int (nI (tr 2 n9))), (6, .int (nI i7))] ∧ g = F0 m 47 ls []) ?_ ?_ ((tr 2 n9)) _ _ _ _ _ ⟨S1, ws, (f9 + i), [], 0, ls, hC, hh, hpp, hAW, by omega, hp1, ⟨hWf, h0, Xt.rf, Nat.le_refl _, hR.sz.2.2.1, by omega, by omega⟩, ⟨by omega, by omega⟩, ⟨hp2.1, hp2.2.1, hp2.2.2.1, fun v h1 h2 => absurd h2 (by omega)⟩, ⟨rfl, fun q hq => absurd hq (by omega)⟩, wmRI.ze, rfl, rfl, hP, hD, hS, lv_sub hl [1, 2, 3, 4, 5, 6, 0] rfl, rfl⟩
    · intro H locs k sl g hI
      obtain ⟨S2, s2, f2, vs, i7, ls, hC, hh, hpp, hAW, hq0, hq1, hq2, hq3, hq4, hq5, hq6, rfl, rfl, hP, hD, hS, hl, rfl⟩ := hI
      have tj2 : TJ S2 N := TJ.aw hT hAW (by decide)
      have te2 : TC S2 tr mk N := hE.aw hAW (by decide)
      obtain ⟨yc1, yc2, yc3, yc4⟩ := hq2.2.2.2
      obtain ⟨yf1, yf2⟩ := id hq3
      have hsz2 := hq1.sz
      refine lv_iload hx hb dX6_runRecord_47 (lv_at hl 6 rfl) ?_
      refine lv_iload hx hb dX6_runRecord_49 (lv_at hl 5 rfl) ?_
      refine lv_icmp_ge (tgt := 102) hx hb dX6_runRecord_51 (by decide) (fun c_6 => ?_) (fun c_6 => absurd ((nI_leI (a := tr 2 n9) (b := i7) (by omega) (by omega)).mpr (by omega)) c_6)
      refine lv_aload_n hx hb dX6_runRecord_102 rfl (lv_at hl 0 rfl) ?_
      refine lv_iconst (v := 3) hx hb dX6_runRecord_103 (by decide) ?_
      refine lv_iload_n hx hb dX6_runRecord_104 rfl (lv_at hl 1 rfl) ?_
      refine lv_iload hx hb dX6_runRecord_105 (lv_at hl 4 rfl) ?_
      have va_7l : wnv s2 + 1 ≤ bgn s2 := by omega
      have va_7s := hq1.sz
      have hC0 := hC
      refine c_ci (c_runV (As := [.int 3, .int (nI n9), .int (nI f9)]) (rest := []) (q0 := 5) (ci := 6) ⟨hx, hb, hml, hown, htu⟩ (x_addValue l G S2 (wnv s2) 3 (nI n9) (nI f9) hC hq1.1.1.1 hq1.1.1.2.1 hq1.1.1.2.2 ((by omega)) H) (cwV 3 htu hU_X6_97 rfl rfl rfl (by decide +kernel) ⟨show 3 + 1 ≤ 2 * fu + 7 by omega, show 8 + (4 + 11) + 103 ≤ 60 * fu + 230 by omega⟩) hP hK hD hC hpp cw_5 rfl rfl hl.1 rfl (lv_room (Nat.le_of_ble_eq_true rfl)) dX6_runRecord_107) hS hD hh hpp (fun r_8 S_9 H locs hw_10 hP hD hS hC hh hs_11 hpp => ?_)
      try dsimp only at hw_10
      have aw_12 : AW [27, 28, 29] [] S2 S_9 := hw_10.1
      have aw_12t : AW [27, 28, 29, 30, 31, 32, 33, 34] [111, 112] S S_9 := hAW.tr (aw_12.mono (by decide) (by decide))
      have kk_13 : kK S_9 30 = f2 := (aw_12.2.1 30 (lt35 (by decide)) (by decide)).2.trans hq1.1.2.1
      have tj_14 : TJ S_9 N := TJ.aw tj2 aw_12 (by decide)
      exact c_iret (v := r_8) hx hb hr hK hP hD hS hC hh hpp ⟨aw_12t, (by rw [wmRI.en hq6 (by omega) hq2.2.1]; exact XQ.valv (RCw.val (so := 3) (n := n9) (e := 0) (x := 0) (fs := vs) hq1 aw_12 hw_10.2.1 hw_10.2.2.1 va_7l rfl (fun z => absurd z (by decide)) (fun z => absurd z (by decide)) (fun _ => ⟨rfl, f9, rfl, by rw [hq5.1]; omega, fun q hq => hq5.2 q (by rw [hq5.1] at hq; exact hq)⟩)) hq2.2.1 (by omega) (by omega) (KP.val (hq4.mono (Nat.le_refl _) (Nat.le_add_right _ _)) aw_12 hw_10.2.2.1 hq2.2.2.1 (fun _ => ⟨f9, rfl, Nat.le_refl _, by omega⟩)) hw_10.2.2.2)⟩ dX6_runRecord_110 hlocks
    · intro j ih8 H locs k sl g hI
      obtain ⟨S2, s2, f2, vs, i7, ls, hC, hh, hpp, hAW, hq0, hq1, hq2, hq3, hq4, hq5, hq6, rfl, rfl, hP, hD, hS, hl, rfl⟩ := hI
      have tj2 : TJ S2 N := TJ.aw hT hAW (by decide)
      have te2 : TC S2 tr mk N := hE.aw hAW (by decide)
      obtain ⟨yc1, yc2, yc3, yc4⟩ := hq2.2.2.2
      obtain ⟨yf1, yf2⟩ := id hq3
      have hsz2 := hq1.sz
      have hci : tr (10 + i7) n9 < N ∧ dp n9 + 1 ≤ dp (tr (10 + i7) n9) := (hTm.1 n9 hn).2.2 i7 (by rw [hp9]; omega)
      refine lv_iload hx hb dX6_runRecord_47 (lv_at hl 6 rfl) ?_
      refine lv_iload hx hb dX6_runRecord_49 (lv_at hl 5 rfl) ?_
      refine lv_icmp_ge (tgt := 102) hx hb dX6_runRecord_51 (by decide) (fun c_15 => absurd c_15 (fun h => by have h2 := (nI_leI (a := tr 2 n9) (b := i7) (by omega) (by omega)).mp h; omega)) (fun c_15 => ?_)
      refine lv_aload_n hx hb dX6_runRecord_54 rfl (lv_at hl 0 rfl) ?_
      refine lv_aload_n hx hb dX6_runRecord_55 rfl (lv_at hl 0 rfl) ?_
      refine va_get (D := gD G) (ci := 6) (v := .ref (ga G 1)) (C := RX6) (T := TX6) (N := 14) hx hb htu cu_in6 hown hK hP 5 cw_5 rfl 0 (by decide) (htu _ C_162) (fun _ h9 => h9) rfl dX6_runRecord_56 ?_
      refine lv_iload_n hx hb dX6_runRecord_59 rfl (lv_at hl 1 rfl) ?_
      refine lv_iload hx hb dX6_runRecord_60 (lv_at hl 6 rfl) ?_
      have hC0 := hC
      refine c_ci (c_runV (As := [.int (nI n9), .int (nI i7)]) (rest := [.ref (ga G 5)]) (q0 := 1) (ci := 3) ⟨hx, hb, hml, hown, htu⟩ (tt_partOf l G S2 N (nI n9) (nI i7) hC tj2.1 H) (cwV 2 htu hU_X6_134 rfl rfl rfl (by decide +kernel) ⟨show 1 + 1 ≤ 2 * fu + 7 by omega, show 8 + (3 + 11) + 21 ≤ 60 * fu + 230 by omega⟩) hP hK hD hC hpp cw_1 rfl rfl hl.1 rfl (lv_room (Nat.le_of_ble_eq_true rfl)) dX6_runRecord_62) hS hD hh hpp (fun r_16 S_17 H locs hw_18 hP hD hS hC hh hs_19 hpp => ?_)
      obtain ⟨-, hu9, hw_18⟩ := hw_18
      have hu9 := hu9.symm
      subst hu9
      obtain rfl : r_16 = nI (tr (10 + i7) n9) := hw_18.trans (TC.part te2 hn (i := i7) (by rw [hp9]; omega))
      refine lv_iload_n hx hb dX6_runRecord_65 rfl (lv_at hl 2 rfl) ?_
      refine lv_iload_n hx hb dX6_runRecord_66 rfl (lv_at hl 3 rfl) ?_
      refine lv_iconst (v := 1) hx hb dX6_runRecord_67 (by decide) ?_
      refine lv_iadd hx hb dX6_runRecord_68 ?_
      refine m_top (y := nI (d9 + 1)) (nI_add d9 1) ?_
      have R_20n0 : tr (10 + i7) n9 < N := hci.1
      have R_20e0 : e9 ≤ ne s2 := (Nat.le_trans he hq2.2.2.1.2.1)
      have R_20l0 : eln s2 e9 ≤ dp (tr (10 + i7) n9) := (by rw [hq2.2.2.1.eln he]; have := hci.2; omega)
      have R_20b0 : bgn s2 ≤ al := hq1.sz.2.2.1
      have hC0 := hC
      refine c_ci (c_runV (As := [.int (nI (tr (10 + i7) n9)), .int (sgt e9), .int (nI (d9 + 1))]) (rest := []) (q0 := 5) (ci := 6) ⟨hx, hb, hml, hown, htu⟩ (ih l G S2 s2 al f2 tr N dp mk (d9 + 1) (tr (10 + i7) n9) e9 hC hq1 tj2 te2 hq2.1 hTm hq2.2.1 R_20n0 R_20e0 R_20l0 ((by omega)) H) (cwV 3 htu hU_X6_62 rfl rfl rfl (by decide +kernel) ⟨show (2 * fu + 6) + 1 ≤ 2 * fu + 7 by omega, show 8 + (4 + 11) + (60 * fu + 200) ≤ 60 * fu + 230 by omega⟩) hP hK hD hC hpp cw_5 rfl rfl hl.1 rfl (lv_room (Nat.le_of_ble_eq_true rfl)) dX6_runRecord_69) hS hD hh hpp (fun r_21 S_22 H locs hw_23 hP hD hS hC hh hs_24 hpp => ?_)
      try dsimp only at hw_23
      have aw_25 : AW [27, 28, 29, 30, 31, 32, 33, 34] [111, 112] S2 S_22 := hw_23.1
      have aw_25t : AW [27, 28, 29, 30, 31, 32, 33, 34] [111, 112] S S_22 := hAW.tr (aw_25.mono (by decide) (by decide))
      have tj_26 : TJ S_22 N := TJ.aw tj2 aw_25 (by decide)
      obtain ⟨R_20, R_20v, R_20e⟩ : ∃ a b, wmx tr mk al fu s2 (tr (10 + i7) n9) e9 = (a, b) := ⟨_, _, rfl⟩
      have R_20p := wmx_ok hTm mk al fu s2 (tr (10 + i7) n9) e9 hq2.1 hq2.2.1 R_20b0 R_20n0 R_20e0 R_20l0
      rw [R_20e] at R_20p
      obtain ⟨R_20W, R_20X, R_20c, R_20i⟩ := R_20p
      obtain ⟨R_20c1, R_20c2, R_20c3, R_20c4⟩ := R_20c
      dsimp only at R_20W R_20X R_20c1 R_20c2 R_20c3 R_20c4 R_20i
      have hw_23q := hw_23.2
      rw [R_20e] at hw_23q
      obtain ⟨R_20q, R_20b, R_20pl, R_20a⟩ := hw_23q
      dsimp only at R_20q R_20b R_20pl
      have te_27 : TC S_22 tr mk N := te2.aw aw_25 (by decide)
      refine lv_istore (lv' := [(7, .int r_21), (0, .ref (ga G 5)), (1, .int (nI n9)), (2, .int (sgt e9)), (3, .int (nI d9)), (4, .int (nI f9)), (5, .int (nI (tr 2 n9))), (6, .int (nI i7))]) hx hb dX6_runRecord_72 hl (by decide) rfl (fun ls hl => ?_)
      refine lv_iload hx hb dX6_runRecord_74 (lv_at hl 0 rfl) ?_
      refine lv_if_ge (tgt := 82) hx hb dX6_runRecord_76 (by decide) (fun c_28 => ?_) (fun c_28 => ?_)
      · skip
        have R_20z : hlt R_20 = 0 := ans_ge R_20a c_28
        obtain ⟨R_20f, R_20R, R_20f1, R_20f2, R_20K⟩ := R_20q R_20z
        have R_20y : r_21 = nI R_20v := R_20a.trans (ans_go R_20z)
        subst R_20y
        have R_20vi := R_20i R_20z
        have R_20FK : KP S S_22 f9 f9 ws R_20 := KP.trans (hq4.mono (Nat.le_refl _) (Nat.le_add_right _ _)) R_20K (by omega) (by omega) hq2.2.2.1 R_20X
        have R_20XX := hq2.2.2.1.tr R_20X
        refine lv_aload_n hx hb dX6_runRecord_82 rfl (lv_at hl 1 rfl) ?_
        refine va_get (D := gD G) (ci := 6) (v := .ref (kH S 30)) (C := RX6) (T := TX6) (N := 14) hx hb htu cu_in6 hown hK hP 5 cw_5 rfl 5 (by decide) (htu _ C_155) (fun _ h9 => h9) (c_hv (hh.2 30 (lt35 (by decide)))) dX6_runRecord_83 ?_
        refine lv_iload hx hb dX6_runRecord_86 (lv_at hl 5 rfl) ?_
        refine lv_iload hx hb dX6_runRecord_88 (lv_at hl 7 rfl) ?_
        refine lv_iadd hx hb dX6_runRecord_90 ?_
        refine m_top (y := nI (f9 + i7)) (nI_add f9 i7) ?_
        refine lv_iload hx hb dX6_runRecord_91 (lv_at hl 0 rfl) ?_
        have hC0 := hC
        refine c_cv (c_runV (As := [.int (nI (f9 + i7)), .int (nI R_20v)]) (rest := []) (q0 := (2 * 30 + 13)) (ci := 0) ⟨hx, hb, hml, hown, htu⟩ (c_setA l G S_22 30 (lt35 (by decide)) hC (kH S 30) (hh.2 30 (lt35 (by decide))) (nI (f9 + i7)) (nI R_20v) H) (cwV 2 htu hU_X6_144 rfl rfl rfl (by decide +kernel) ⟨show 0 + 1 ≤ 2 * fu + 7 by omega, show 8 + (3 + 11) + 0 ≤ 60 * fu + 230 by omega⟩) hP hK hD hC hpp (c_hd (hh.2 30 (lt35 (by decide))) (cw_row (lt35 (by decide)))) rfl rfl hl.1 rfl (lv_room (Nat.le_of_ble_eq_true rfl)) dX6_runRecord_93) hS hD hh hpp (fun S_30 H locs hw_31 hP hD hS hC hh hs_32 hpp => ?_)
        try dsimp only at hw_31
        have aw_33 : AW [30] [] S_22 S_30 := (by rw [hw_31]; exact AW.u (by decide))
        have aw_33t : AW [27, 28, 29, 30, 31, 32, 33, 34] [111, 112] S S_30 := aw_25t.tr (aw_33.mono (by decide) (by decide))
        have tj_34 : TJ S_30 N := TJ.aw tj_26 aw_33 (by decide)
        have kk_35 : kK S_30 30 = R_20f := by rw [hw_31]; exact uR_K.trans R_20R.1.2.1
        have wf_36z := R_20R.sz
        obtain ⟨wf_36a, wf_36k, wf_36c, wf_36o⟩ := set_30 (c := f9 + i7) R_20R.1.2.1 (by omega) (by omega) hw_31
        have wf_36K := KP.trans hq4 R_20K (by omega) (by omega) hq2.2.2.1 R_20X
        have wf_36 := RCw.set R_20R hR R_20XX wf_36K (Nat.le_add_right _ _) (by omega) wf_36a wf_36k wf_36o
        have wf_36P := KP.fld wf_36K wf_36a (fun j hj => wf_36o j (by omega))
        have wf_36q : (vs ++ [R_20v]).length = i7 + 1 ∧ ∀ q, q < i7 + 1 → kF S_30 30 (f9 + q) = nI ((vs ++ [R_20v]).getD q 0) := ⟨by rw [List.length_append, hq5.1]; rfl, fun q hq => by
            by_cases e9_ : q = i7
            · subst e9_
              rw [getD_at hq5.1]
              exact wf_36c
            · rw [getD_lt (by rw [hq5.1]; omega), wf_36o _ (by omega), R_20K.2.1 _ (by omega)]
              exact hq5.2 q (by omega)⟩
        refine lv_iinc (v := nI (i7 + 1)) (lv' := [(6, .int (nI (i7 + 1))), (7, .int (nI R_20v)), (0, .ref (ga G 5)), (1, .int (nI n9)), (2, .int (sgt e9)), (3, .int (nI d9)), (4, .int (nI f9)), (5, .int (nI (tr 2 n9)))]) hx hb dX6_runRecord_96 hl (k := 7) rfl (nI_1 i7) (by decide) rfl (fun ls hl => ?_)
        refine lv_goto (tgt := 47) hx hb dX6_runRecord_99 (by decide) ?_
        exact ih8 _ _ _ _ _ ⟨S_30, R_20, R_20f, (vs ++ [R_20v]), i7 + 1, ls, hC, hh, hpp, aw_33t, by omega, wf_36, ⟨R_20W, R_20z, R_20XX, ⟨by omega, by omega, by omega, by omega⟩⟩, ⟨by omega, by omega⟩, wf_36P, wf_36q, (wmRI.st hq6 (by omega) R_20e R_20z), rfl, rfl, hP, hD, hS, lv_sub hl [2, 3, 4, 5, 6, 7, 0] rfl, rfl⟩
      · skip
        refine lv_iload hx hb dX6_runRecord_79 (lv_at hl 0 rfl) ?_
        exact c_iret (v := r_21) hx hb hr hK hP hD hS hC hh hpp ⟨aw_25t, (by rw [wmRI.ha hq6 (by omega) R_20e (ans_lt R_20a (fun z => by have h1 := R_20i z; have h2 := (R_20q z).choose_spec.1.sz; omega) c_28)]; exact XQ.stopv R_20b R_20pl R_20a (ans_lt R_20a (fun z => by have h1 := R_20i z; have h2 := (R_20q z).choose_spec.1.sz; omega) c_28))⟩ dX6_runRecord_81 hlocks
  · intro j ih9 H locs k sl g hI
    obtain ⟨S1, i, ls, hC, hh, hpp, hAW, hp0, hp1, hp2, rfl, rfl, hP, hD, hS, hl, rfl⟩ := hI
    have tj1 : TJ S1 N := TJ.aw hT hAW (by decide)
    have te1 : TC S1 tr mk N := hE.aw hAW (by decide)
    refine lv_iload hx hb dX6_runRecord_22 (lv_at hl 6 rfl) ?_
    refine lv_iload hx hb dX6_runRecord_24 (lv_at hl 5 rfl) ?_
    refine lv_icmp_ge (tgt := 44) hx hb dX6_runRecord_26 (by decide) (fun c_37 => absurd c_37 (fun h => by have h2 := (nI_leI (a := tr 2 n9) (b := i) (by omega) (by omega)).mp h; omega)) (fun c_37 => ?_)
    refine lv_aload_n hx hb dX6_runRecord_29 rfl (lv_at hl 0 rfl) ?_
    refine va_get (D := gD G) (ci := 6) (v := .ref (kH S 30)) (C := RX6) (T := TX6) (N := 14) hx hb htu cu_in6 hown hK hP 5 cw_5 rfl 5 (by decide) (htu _ C_155) (fun _ h9 => h9) (c_hv (hh.2 30 (lt35 (by decide)))) dX6_runRecord_30 ?_
    refine lv_bipush (v := (-9)) hx hb dX6_runRecord_33 (by decide) ?_
    have hC0 := hC
    refine c_cv (c_runV (As := [.int ((-9))]) (rest := []) (q0 := (2 * 30 + 13)) (ci := 0) ⟨hx, hb, hml, hown, htu⟩ (c_addA l G S1 30 (lt35 (by decide)) hC (kH S 30) (hh.2 30 (lt35 (by decide))) ((-9)) (show kK S1 30 < lim 30 by rw [hp1.1.2.1, lim_30]; omega) H) (cwV 1 htu hU_X6_82 rfl rfl rfl (by decide +kernel) ⟨show 2 + 1 ≤ 2 * fu + 7 by omega, show 8 + (2 + 11) + 82 ≤ 60 * fu + 230 by omega⟩) hP hK hD hC hpp (c_hd (hh.2 30 (lt35 (by decide))) (cw_row (lt35 (by decide)))) rfl rfl hl.1 rfl (lv_room (Nat.le_of_ble_eq_true rfl)) dX6_runRecord_35) hS hD hh hpp (fun S_39 H locs hw_40 hP hD hS hC hh hs_41 hpp => ?_)
    try dsimp only at hw_40
    have aw_42 : AW [30] [] S1 S_39 := (by obtain ⟨_, _, _, h9, -, -⟩ := hw_40; rw [h9]; exact AW.u (by decide))
    have aw_42t : AW [27, 28, 29, 30, 31, 32, 33, 34] [111, 112] S S_39 := hAW.tr (aw_42.mono (by decide) (by decide))
    have tj_43 : TJ S_39 N := TJ.aw tj1 aw_42 (by decide)
    obtain ⟨ad_44n, ad_44q, ad_44g, ad_44u, ad_441, ad_442⟩ := hw_40
    have kk_45 : kK S_39 30 = f9 + i + 1 := by rw [ad_44u]; exact uR_K.trans (congrArg (· + 1) hp1.1.2.1)
    have wf_46a := ad_F2 ad_44u ad_441 ad_442 hp1.1.2.1
    have wf_46 : RCw S_39 ws al (f9 + i + 1) := RCw.fld hp1 aw_42 kk_45 (by omega) wf_46a.1
    have wf_46k : KP S S_39 f9 f9 ws ws := KP.fld hp2 aw_42 (fun j hj => wf_46a.1 j (by omega))
    refine lv_iinc (v := nI (i + 1)) (lv' := [(6, .int (nI (i + 1))), (0, .ref (ga G 5)), (1, .int (nI n9)), (2, .int (sgt e9)), (3, .int (nI d9)), (4, .int (nI f9)), (5, .int (nI (tr 2 n9)))]) hx hb dX6_runRecord_38 hl (k := 6) rfl (nI_1 i) (by decide) rfl (fun ls hl => ?_)
    refine lv_goto (tgt := 22) hx hb dX6_runRecord_41 (by decide) ?_
    exact ih9 _ _ _ _ _ ⟨S_39, i + 1, ls, hC, hh, hpp, aw_42t, by omega, wf_46, wf_46k, rfl, rfl, hP, hD, hS, lv_sub hl [1, 2, 3, 4, 5, 6, 0] rfl, rfl⟩

set_option maxHeartbeats 4000000 in
set_option maxRecDepth 100000 in
/-- run -/
theorem x_run_0 (l : Launch) (G : cG) (S : cS) (ws : wmS) (al : Nat) (f9 : Nat) (tr : aM) (N : Nat) (dp : Nat → Nat) (mk : Nat → Int32) (d9 : Nat) (n9 : Nat) (e9 : Nat) (hC : CL S) (hR : RCw S ws al f9) (hT : TJ S N) (hE : TC S tr mk N) (hWf : wmW tr N dp ws) (hTm : wmT tr N dp) (h0 : hlt ws = 0) (hn : n9 < N) (he : e9 ≤ ne ws) (hel : eln ws e9 ≤ dp n9) (hd : d9 + 0 = 61) (Hs : Heap) : Met l yX6_run (wC yX6_run cX6_run 4 (some .int)) (cRm S (2 * 0 + 6) (60 * 0 + 200)) (cPc G S Hs [.ref (ga G 5), .int (nI n9), .int (sgt e9), .int (nI d9)]) (cQi G S Hs (fun v u => AW [27, 28, 29, 30, 31, 32, 33, 34] [111, 112] S u ∧ (XQ S u al f9 0 ws (wmx tr mk al 0 ws n9 e9) v))) (CC - PT S) (12 * (CC - PT S)) (cA G S Hs.size) := by
  refine Met.ofW (cc := cX6_run) (maxL := 4) (ret := (some .int)) (by decide) rfl ?_
  intro p e s m args below meth c s₁ B hml hv
  obtain ⟨rfl, hsz, hP, hK, hD0, -⟩ := hv
  have hx := B.exec
  have hb := B.bytes
  have hr := B.returns
  have htu : ∀ w ∈ CU, w.before _ s = true := fun w h => atoms_spec (ws := (wC yX6_run cX6_run 4 (some .int))) B.pre w (List.mem_cons_of_mem _ h)
  have hown : s.vm.findClass RX6 = some m.cls := findClass_of_methodNamed B.named
  have hlocks := B.notSynchronized
  subst hsz
  have hD : cD (cA G S s.heap.size) G S := cD_self hD0
  have hl := lv_entry ([.ref (ga G 5), .int (nI n9), .int (sgt e9), .int (nI d9)]) (n := 4) (Nat.le_of_ble_eq_true rfl)
  rw [lg_entry_eq]
  generalize (lg_sl ([.ref (ga G 5), .int (nI n9), .int (sgt e9), .int (nI d9)]) ++ List.replicate (4 - (lg_sl ([.ref (ga G 5), .int (nI n9), .int (sgt e9), .int (nI d9)])).length) Slot.unset).toArray = ls at hl ⊢
  have hl : lv_has ls 4 [(0, .ref (ga G 5)), (1, .int (nI n9)), (2, .int (sgt e9)), (3, .int (nI d9))] := hl
  obtain ⟨H, hHe⟩ : ∃ H : Heap, H = s.heap := ⟨_, rfl⟩
  rw [← hHe] at hP
  have hS : va_S (cA G S s.heap.size) s.heap H [] := by rw [hHe]; exact va_S.rf
  have hh : HS S S := HS.rf
  have hpp : PT S ≤ PT S := Nat.le_refl _
  have hB9 := hC.1
  refine W.heq hHe ?_
  refine c_ent (S := S) ?_
  have hsz := hR.sz
  refine lv_aload_n hx hb dX6_run_0 rfl (lv_at hl 0 rfl) ?_
  refine va_get (D := gD G) (ci := 6) (v := .int (nI (bgn ws))) (C := RX6) (T := TX6) (N := 14) hx hb htu cu_in6 hown hK hP 5 cw_5 rfl 11 (by decide) (htu _ C_543) (fun _ h9 => h9) (m_v hR.1.2.2.2.2.1) dX6_run_1 ?_
  refine lv_aload_n hx hb dX6_run_4 rfl (lv_at hl 0 rfl) ?_
  refine va_get (D := gD G) (ci := 6) (v := .int (nI al)) (C := RX6) (T := TX6) (N := 14) hx hb htu cu_in6 hown hK hP 5 cw_5 rfl 10 (by decide) (htu _ C_542) (fun _ h9 => h9) (m_v hR.1.2.2.2.1) dX6_run_5 ?_
  refine lv_icmp_ge (tgt := 17) hx hb dX6_run_8 (by decide) (fun c_1 => ?_) (fun c_1 => ?_)
  · skip
    have nc_1 : al ≤ bgn ws := (nI_leI (a := al) (b := bgn ws) (by omega) (by omega)).mp c_1
    refine lv_aload_n hx hb dX6_run_17 rfl (lv_at hl 0 rfl) ?_
    refine lv_iload_n hx hb dX6_run_18 rfl (lv_at hl 1 rfl) ?_
    refine c_put5_12 (x := (nI n9)) hx hb htu hown hK hP hD hS (htu _ C_160) dX6_run_19 (fun H locs hP hD hS => ?_)
    have S_2h : HS S (cO S 112 (nI n9)) := hh
    have S_2c : CL (cO S 112 (nI n9)) := hC
    have S_2p : PT S ≤ PT (cO S 112 (nI n9)) := hpp
    refine c_eq (S1 := S) (S2 := cO S 112 (nI n9)) rfl ?_
    have S_2w : AW [27, 28, 29, 30, 31, 32, 33, 34] [111, 112] S (cO S 112 (nI n9)) := (AW.o AW.rf (by decide))
    have hh := S_2h
    have hC := S_2c
    have hpp := S_2p
    have tj_3 : TJ (cO S 112 (nI n9)) N := hT
    refine lv_bipush (v := (-6)) hx hb dX6_run_22 (by decide) ?_
    exact c_iret (v := (-6)) hx hb hr hK hP hD hS hC hh hpp ⟨S_2w, (XQ.spentv ((cO_n (show 111 ≠ 112 by decide)).trans hR.1.2.2.2.2.1) cO_s rfl)⟩ dX6_run_24 hlocks
  · skip
    have nc_1 : ¬ al ≤ bgn ws := fun h9 => c_1 ((nI_leI (a := al) (b := bgn ws) (by omega) (by omega)).mpr h9)
    refine lv_iload_n hx hb dX6_run_11 rfl (lv_at hl 3 rfl) ?_
    refine lv_bipush (v := 60) hx hb dX6_run_12 (by decide) ?_
    refine lv_icmp_le (tgt := 25) hx hb dX6_run_14 (by decide) (fun c_4 => absurd c_4 (fun h => by have h2 := (nI_leI (a := d9) (b := 60) (by omega) (by omega)).mp h; omega)) (fun c_4 => ?_)
    refine lv_aload_n hx hb dX6_run_17 rfl (lv_at hl 0 rfl) ?_
    refine lv_iload_n hx hb dX6_run_18 rfl (lv_at hl 1 rfl) ?_
    refine c_put5_12 (x := (nI n9)) hx hb htu hown hK hP hD hS (htu _ C_160) dX6_run_19 (fun H locs hP hD hS => ?_)
    have S_5h : HS S (cO S 112 (nI n9)) := hh
    have S_5c : CL (cO S 112 (nI n9)) := hC
    have S_5p : PT S ≤ PT (cO S 112 (nI n9)) := hpp
    refine c_eq (S1 := S) (S2 := cO S 112 (nI n9)) rfl ?_
    have S_5w : AW [27, 28, 29, 30, 31, 32, 33, 34] [111, 112] S (cO S 112 (nI n9)) := (AW.o AW.rf (by decide))
    have hh := S_5h
    have hC := S_5c
    have hpp := S_5p
    have tj_6 : TJ (cO S 112 (nI n9)) N := hT
    refine lv_bipush (v := (-6)) hx hb dX6_run_22 (by decide) ?_
    exact c_iret (v := (-6)) hx hb hr hK hP hD hS hC hh hpp ⟨S_5w, (XQ.spentv ((cO_n (show 111 ≠ 112 by decide)).trans hR.1.2.2.2.2.1) cO_s rfl)⟩ dX6_run_24 hlocks

set_option maxHeartbeats 4000000 in
set_option maxRecDepth 100000 in
/-- run -/
theorem x_run_s (l : Launch) (G : cG) (S : cS) (fu : Nat) (ws : wmS) (al : Nat) (f9 : Nat) (tr : aM) (N : Nat) (dp : Nat → Nat) (mk : Nat → Int32) (d9 : Nat) (n9 : Nat) (e9 : Nat) (hC : CL S) (ih : xRunAt fu) (hR : RCw S ws al f9) (hT : TJ S N) (hE : TC S tr mk N) (hWf : wmW tr N dp ws) (hTm : wmT tr N dp) (h0 : hlt ws = 0) (hn : n9 < N) (he : e9 ≤ ne ws) (hel : eln ws e9 ≤ dp n9) (hd : d9 + (fu + 1) = 61) (Hs : Heap) : Met l yX6_run (wC yX6_run cX6_run 4 (some .int)) (cRm S (2 * (fu + 1) + 6) (60 * (fu + 1) + 200)) (cPc G S Hs [.ref (ga G 5), .int (nI n9), .int (sgt e9), .int (nI d9)]) (cQi G S Hs (fun v u => AW [27, 28, 29, 30, 31, 32, 33, 34] [111, 112] S u ∧ (XQ S u al f9 0 ws (wmx tr mk al (fu + 1) ws n9 e9) v))) (CC - PT S) (12 * (CC - PT S)) (cA G S Hs.size) := by
  refine Met.ofW (cc := cX6_run) (maxL := 4) (ret := (some .int)) (by decide) rfl ?_
  intro p e s m args below meth c s₁ B hml hv
  obtain ⟨rfl, hsz, hP, hK, hD0, -⟩ := hv
  have hx := B.exec
  have hb := B.bytes
  have hr := B.returns
  have htu : ∀ w ∈ CU, w.before _ s = true := fun w h => atoms_spec (ws := (wC yX6_run cX6_run 4 (some .int))) B.pre w (List.mem_cons_of_mem _ h)
  have hown : s.vm.findClass RX6 = some m.cls := findClass_of_methodNamed B.named
  have hlocks := B.notSynchronized
  subst hsz
  have hD : cD (cA G S s.heap.size) G S := cD_self hD0
  have hl := lv_entry ([.ref (ga G 5), .int (nI n9), .int (sgt e9), .int (nI d9)]) (n := 4) (Nat.le_of_ble_eq_true rfl)
  rw [lg_entry_eq]
  generalize (lg_sl ([.ref (ga G 5), .int (nI n9), .int (sgt e9), .int (nI d9)]) ++ List.replicate (4 - (lg_sl ([.ref (ga G 5), .int (nI n9), .int (sgt e9), .int (nI d9)])).length) Slot.unset).toArray = ls at hl ⊢
  have hl : lv_has ls 4 [(0, .ref (ga G 5)), (1, .int (nI n9)), (2, .int (sgt e9)), (3, .int (nI d9))] := hl
  obtain ⟨H, hHe⟩ : ∃ H : Heap, H = s.heap := ⟨_, rfl⟩
  rw [← hHe] at hP
  have hS : va_S (cA G S s.heap.size) s.heap H [] := by rw [hHe]; exact va_S.rf
  have hh : HS S S := HS.rf
  have hpp : PT S ≤ PT S := Nat.le_refl _
  have hB9 := hC.1
  refine W.heq hHe ?_
  refine c_ent (S := S) ?_
  have hsz := hR.sz
  refine lv_aload_n hx hb dX6_run_0 rfl (lv_at hl 0 rfl) ?_
  refine va_get (D := gD G) (ci := 6) (v := .int (nI (bgn ws))) (C := RX6) (T := TX6) (N := 14) hx hb htu cu_in6 hown hK hP 5 cw_5 rfl 11 (by decide) (htu _ C_543) (fun _ h9 => h9) (m_v hR.1.2.2.2.2.1) dX6_run_1 ?_
  refine lv_aload_n hx hb dX6_run_4 rfl (lv_at hl 0 rfl) ?_
  refine va_get (D := gD G) (ci := 6) (v := .int (nI al)) (C := RX6) (T := TX6) (N := 14) hx hb htu cu_in6 hown hK hP 5 cw_5 rfl 10 (by decide) (htu _ C_542) (fun _ h9 => h9) (m_v hR.1.2.2.2.1) dX6_run_5 ?_
  refine lv_icmp_ge (tgt := 17) hx hb dX6_run_8 (by decide) (fun c_1 => ?_) (fun c_1 => ?_)
  · skip
    have nc_1 : al ≤ bgn ws := (nI_leI (a := al) (b := bgn ws) (by omega) (by omega)).mp c_1
    refine lv_aload_n hx hb dX6_run_17 rfl (lv_at hl 0 rfl) ?_
    refine lv_iload_n hx hb dX6_run_18 rfl (lv_at hl 1 rfl) ?_
    refine c_put5_12 (x := (nI n9)) hx hb htu hown hK hP hD hS (htu _ C_160) dX6_run_19 (fun H locs hP hD hS => ?_)
    have S_2h : HS S (cO S 112 (nI n9)) := hh
    have S_2c : CL (cO S 112 (nI n9)) := hC
    have S_2p : PT S ≤ PT (cO S 112 (nI n9)) := hpp
    refine c_eq (S1 := S) (S2 := cO S 112 (nI n9)) rfl ?_
    have S_2w : AW [27, 28, 29, 30, 31, 32, 33, 34] [111, 112] S (cO S 112 (nI n9)) := (AW.o AW.rf (by decide))
    have hh := S_2h
    have hC := S_2c
    have hpp := S_2p
    have tj_3 : TJ (cO S 112 (nI n9)) N := hT
    refine lv_bipush (v := (-6)) hx hb dX6_run_22 (by decide) ?_
    exact c_iret (v := (-6)) hx hb hr hK hP hD hS hC hh hpp ⟨S_2w, (by rw [show wmx tr mk al (fu + 1) ws n9 e9 = wmh ws 2 n9 from if_pos nc_1]; exact XQ.spentv ((cO_n (show 111 ≠ 112 by decide)).trans hR.1.2.2.2.2.1) cO_s rfl)⟩ dX6_run_24 hlocks
  · skip
    have nc_1 : ¬ al ≤ bgn ws := fun h9 => c_1 ((nI_leI (a := al) (b := bgn ws) (by omega) (by omega)).mpr h9)
    refine lv_iload_n hx hb dX6_run_11 rfl (lv_at hl 3 rfl) ?_
    refine lv_bipush (v := 60) hx hb dX6_run_12 (by decide) ?_
    refine lv_icmp_le (tgt := 25) hx hb dX6_run_14 (by decide) (fun c_4 => ?_) (fun c_4 => absurd ((nI_leI (a := d9) (b := 60) (by omega) (by omega)).mpr (by omega)) c_4)
    refine lv_aload_n hx hb dX6_run_25 rfl (lv_at hl 0 rfl) ?_
    refine lv_dup hx hb dX6_run_26 rfl ?_
    refine va_get (D := gD G) (ci := 6) (v := .int (nI (bgn ws))) (C := RX6) (T := TX6) (N := 14) hx hb htu cu_in6 hown hK hP 5 cw_5 rfl 11 (by decide) (htu _ C_543) (fun _ h9 => h9) (m_v hR.1.2.2.2.2.1) dX6_run_27 ?_
    refine lv_iconst (v := 1) hx hb dX6_run_30 (by decide) ?_
    refine lv_iadd hx hb dX6_run_31 ?_
    refine m_top (y := nI (bgn ws + 1)) (nI_add (bgn ws) 1) ?_
    refine c_put5_11 (x := (nI (bgn ws + 1))) hx hb htu hown hK hP hD hS (htu _ C_543) dX6_run_32 (fun H locs hP hD hS => ?_)
    have S_5h : HS S (cO S 111 (nI (bgn ws + 1))) := hh
    have S_5c : CL (cO S 111 (nI (bgn ws + 1))) := hC
    have S_5p : PT S ≤ PT (cO S 111 (nI (bgn ws + 1))) := hpp
    refine c_eq (S1 := S) (S2 := cO S 111 (nI (bgn ws + 1))) rfl ?_
    have S_5w : AW [27, 28, 29, 30, 31, 32, 33, 34] [111, 112] S (cO S 111 (nI (bgn ws + 1))) := (AW.o AW.rf (by decide))
    have hh := S_5h
    have hC := S_5c
    have hpp := S_5p
    have tj_6 : TJ (cO S 111 (nI (bgn ws + 1))) N := hT
    have hsz := hR.sz
    have hlt : bgn ws < al := Nat.not_le.mp nc_1
    have wb := RCw.beg hR hlt
    have te1 : TC (cO S 111 (nI (bgn ws + 1))) tr mk N := hE
    have wW : wmW tr N dp (wmb ws) := w_wmq hWf (by decide)
    have bb : bgn (wmb ws) = bgn ws + 1 := rfl
    have bv : wnv (wmb ws) = wnv ws := rfl
    have be : ne (wmb ws) = ne ws := rfl
    have hok := ok_wmd (mk := mk) (wmx_ok hTm mk al fu) hTm (s := wmb ws) wW h0 (by omega) hn he hel
    refine lv_aload_n hx hb dX6_run_35 rfl (lv_at hl 0 rfl) ?_
    refine va_get (D := gD G) (ci := 6) (v := .ref (ga G 1)) (C := RX6) (T := TX6) (N := 14) hx hb htu cu_in6 hown hK hP 5 cw_5 rfl 0 (by decide) (htu _ C_162) (fun _ h9 => h9) rfl dX6_run_36 ?_
    refine lv_iload_n hx hb dX6_run_39 rfl (lv_at hl 1 rfl) ?_
    have hC0 := hC
    refine c_ci (c_runV (As := [.int (nI n9)]) (rest := []) (q0 := 1) (ci := 3) ⟨hx, hb, hml, hown, htu⟩ (tt_kindOf l G (cO S 111 (nI (bgn ws + 1))) N (nI n9) hC tj_6.1 H) (cwV 1 htu hU_X6_88 rfl rfl rfl (by decide +kernel) ⟨show 1 + 1 ≤ 2 * (fu + 1) + 6 by omega, show 8 + (2 + 11) + 21 ≤ 60 * (fu + 1) + 200 by omega⟩) hP hK hD hC hpp cw_1 rfl rfl hl.1 rfl (lv_room (Nat.le_of_ble_eq_true rfl)) dX6_run_40) hS hD hh hpp (fun r_7 S_8 H locs hw_9 hP hD hS hC hh hs_10 hpp => ?_)
    obtain ⟨-, hu9, hw_9⟩ := hw_9
    have hu9 := hu9.symm
    subst hu9
    obtain rfl : r_7 = nI (tr 0 n9) := hw_9.trans (te1.kind hn)
    rcases Decidable.em (nI (tr 0 n9) = 0) with c_11 | c_11
    · skip
      refine lv_tableIn (tgt := 96) hx hb dX6_run_43 (by rw [c_11]; decide) (by rw [c_11]; decide) (by rw [c_11]; rfl) (by decide) ?_
      have hk : tr 0 n9 = 0 := (nI_eq (a := tr 0 n9) (b := 0) (by have := (hTm.1 n9 hn).1; omega) (by omega)).mp c_11
      refine lv_aload_n hx hb dX6_run_96 rfl (lv_at hl 0 rfl) ?_
      refine lv_iconst (v := 0) hx hb dX6_run_97 (by decide) ?_
      refine lv_aload_n hx hb dX6_run_98 rfl (lv_at hl 0 rfl) ?_
      refine va_get (D := gD G) (ci := 6) (v := .ref (ga G 1)) (C := RX6) (T := TX6) (N := 14) hx hb htu cu_in6 hown hK hP 5 cw_5 rfl 0 (by decide) (htu _ C_162) (fun _ h9 => h9) rfl dX6_run_99 ?_
      refine lv_iload_n hx hb dX6_run_102 rfl (lv_at hl 1 rfl) ?_
      have hC0 := hC
      refine c_ci (c_runV (As := [.int (nI n9)]) (rest := [.int 0, .ref (ga G 5)]) (q0 := 1) (ci := 3) ⟨hx, hb, hml, hown, htu⟩ (tt_markOf l G (cO S 111 (nI (bgn ws + 1))) N (nI n9) hC tj_6.1 H) (cwV 1 htu hU_X6_94 rfl rfl rfl (by decide +kernel) ⟨show 1 + 1 ≤ 2 * (fu + 1) + 6 by omega, show 8 + (2 + 11) + 21 ≤ 60 * (fu + 1) + 200 by omega⟩) hP hK hD hC hpp cw_1 rfl rfl hl.1 rfl (lv_room (Nat.le_of_ble_eq_true rfl)) dX6_run_103) hS hD hh hpp (fun r_12 S_13 H locs hw_14 hP hD hS hC hh hs_15 hpp => ?_)
      obtain ⟨-, hu9, hw_14⟩ := hw_14
      have hu9 := hu9.symm
      subst hu9
      obtain rfl : r_12 = mk n9 := hw_14.trans (te1.mark hn)
      refine lv_bipush (v := (-9)) hx hb dX6_run_106 (by decide) ?_
      have va_16l : wnv ((wmb ws)) + 1 ≤ bgn ((wmb ws)) := by omega
      have va_16s := wb.sz
      have hC0 := hC
      refine c_ci (c_runV (As := [.int 0, .int (mk n9), .int ((-9))]) (rest := []) (q0 := 5) (ci := 6) ⟨hx, hb, hml, hown, htu⟩ (x_addValue l G (cO S 111 (nI (bgn ws + 1))) (wnv ((wmb ws))) 0 (mk n9) ((-9)) hC wb.1.1.1 wb.1.1.2.1 wb.1.1.2.2 ((by omega)) H) (cwV 3 htu hU_X6_97 rfl rfl rfl (by decide +kernel) ⟨show 3 + 1 ≤ 2 * (fu + 1) + 6 by omega, show 8 + (4 + 11) + 103 ≤ 60 * (fu + 1) + 200 by omega⟩) hP hK hD hC hpp cw_5 rfl rfl hl.1 rfl (lv_room (Nat.le_of_ble_eq_true rfl)) dX6_run_108) hS hD hh hpp (fun r_17 S_18 H locs hw_19 hP hD hS hC hh hs_20 hpp => ?_)
      try dsimp only at hw_19
      have aw_21 : AW [27, 28, 29] [] (cO S 111 (nI (bgn ws + 1))) S_18 := hw_19.1
      have aw_21t : AW [27, 28, 29, 30, 31, 32, 33, 34] [111, 112] S S_18 := S_5w.tr (aw_21.mono (by decide) (by decide))
      have ii_22 : S_18.1 110 = nI al := (aw_21.1 110 (by decide)).trans ((cO_n (show 110 ≠ 111 by decide)).trans hR.1.2.2.2.1)
      have ii_23 : S_18.1 111 = nI (bgn ws + 1) := (aw_21.1 111 (by decide)).trans cO_s
      have tj_24 : TJ S_18 N := TJ.aw tj_6 aw_21 (by decide)
      exact c_iret (v := r_17) hx hb hr hK hP hD hS hC hh hpp ⟨aw_21t, (by rw [wmx_s nc_1]; exact XQ.run (r := wmd tr mk (wmx tr mk al fu) (wmb ws) n9 e9) (by rw [wmd_0 hk]; exact XQ.valv (RCw.val (so := 0) (n := 0) (e := 0) (x := mk n9) (fs := []) wb aw_21 hw_19.2.1 hw_19.2.2.1 va_16l rfl (fun _ => rfl) (fun z => absurd z (by decide)) (fun z => absurd z (by decide))) h0 (Nat.le_refl _) (by omega) (KP.val KP.rf aw_21 hw_19.2.2.1 Xt.rf (fun z => absurd z (by decide))) hw_19.2.2.2) KP.beg hok.2.1)⟩ dX6_run_111 hlocks
    rcases Decidable.em (nI (tr 0 n9) = 1) with c_25 | c_25
    · skip
      refine lv_tableIn (tgt := 112) hx hb dX6_run_43 (by rw [c_25]; decide) (by rw [c_25]; decide) (by rw [c_25]; rfl) (by decide) ?_
      have hk : tr 0 n9 = 1 := (nI_eq (a := tr 0 n9) (b := 1) (by have := (hTm.1 n9 hn).1; omega) (by omega)).mp c_25
      refine lv_aload_n hx hb dX6_run_112 rfl (lv_at hl 0 rfl) ?_
      refine lv_iconst (v := 1) hx hb dX6_run_113 (by decide) ?_
      refine lv_aload_n hx hb dX6_run_114 rfl (lv_at hl 0 rfl) ?_
      refine va_get (D := gD G) (ci := 6) (v := .ref (ga G 1)) (C := RX6) (T := TX6) (N := 14) hx hb htu cu_in6 hown hK hP 5 cw_5 rfl 0 (by decide) (htu _ C_162) (fun _ h9 => h9) rfl dX6_run_115 ?_
      refine lv_iload_n hx hb dX6_run_118 rfl (lv_at hl 1 rfl) ?_
      have hC0 := hC
      refine c_ci (c_runV (As := [.int (nI n9)]) (rest := [.int 1, .ref (ga G 5)]) (q0 := 1) (ci := 3) ⟨hx, hb, hml, hown, htu⟩ (tt_markOf l G (cO S 111 (nI (bgn ws + 1))) N (nI n9) hC tj_6.1 H) (cwV 1 htu hU_X6_94 rfl rfl rfl (by decide +kernel) ⟨show 1 + 1 ≤ 2 * (fu + 1) + 6 by omega, show 8 + (2 + 11) + 21 ≤ 60 * (fu + 1) + 200 by omega⟩) hP hK hD hC hpp cw_1 rfl rfl hl.1 rfl (lv_room (Nat.le_of_ble_eq_true rfl)) dX6_run_119) hS hD hh hpp (fun r_26 S_27 H locs hw_28 hP hD hS hC hh hs_29 hpp => ?_)
      obtain ⟨-, hu9, hw_28⟩ := hw_28
      have hu9 := hu9.symm
      subst hu9
      obtain rfl : r_26 = mk n9 := hw_28.trans (te1.mark hn)
      refine lv_bipush (v := (-9)) hx hb dX6_run_122 (by decide) ?_
      have va_30l : wnv ((wmb ws)) + 1 ≤ bgn ((wmb ws)) := by omega
      have va_30s := wb.sz
      have hC0 := hC
      refine c_ci (c_runV (As := [.int 1, .int (mk n9), .int ((-9))]) (rest := []) (q0 := 5) (ci := 6) ⟨hx, hb, hml, hown, htu⟩ (x_addValue l G (cO S 111 (nI (bgn ws + 1))) (wnv ((wmb ws))) 1 (mk n9) ((-9)) hC wb.1.1.1 wb.1.1.2.1 wb.1.1.2.2 ((by omega)) H) (cwV 3 htu hU_X6_97 rfl rfl rfl (by decide +kernel) ⟨show 3 + 1 ≤ 2 * (fu + 1) + 6 by omega, show 8 + (4 + 11) + 103 ≤ 60 * (fu + 1) + 200 by omega⟩) hP hK hD hC hpp cw_5 rfl rfl hl.1 rfl (lv_room (Nat.le_of_ble_eq_true rfl)) dX6_run_124) hS hD hh hpp (fun r_31 S_32 H locs hw_33 hP hD hS hC hh hs_34 hpp => ?_)
      try dsimp only at hw_33
      have aw_35 : AW [27, 28, 29] [] (cO S 111 (nI (bgn ws + 1))) S_32 := hw_33.1
      have aw_35t : AW [27, 28, 29, 30, 31, 32, 33, 34] [111, 112] S S_32 := S_5w.tr (aw_35.mono (by decide) (by decide))
      have ii_36 : S_32.1 110 = nI al := (aw_35.1 110 (by decide)).trans ((cO_n (show 110 ≠ 111 by decide)).trans hR.1.2.2.2.1)
      have ii_37 : S_32.1 111 = nI (bgn ws + 1) := (aw_35.1 111 (by decide)).trans cO_s
      have tj_38 : TJ S_32 N := TJ.aw tj_6 aw_35 (by decide)
      exact c_iret (v := r_31) hx hb hr hK hP hD hS hC hh hpp ⟨aw_35t, (by rw [wmx_s nc_1]; exact XQ.run (r := wmd tr mk (wmx tr mk al fu) (wmb ws) n9 e9) (by rw [wmd_1 hk]; exact XQ.valv (RCw.val (so := 1) (n := 0) (e := 0) (x := mk n9) (fs := []) wb aw_35 hw_33.2.1 hw_33.2.2.1 va_30l rfl (fun _ => rfl) (fun z => absurd z (by decide)) (fun z => absurd z (by decide))) h0 (Nat.le_refl _) (by omega) (KP.val KP.rf aw_35 hw_33.2.2.1 Xt.rf (fun z => absurd z (by decide))) hw_33.2.2.2) KP.beg hok.2.1)⟩ dX6_run_127 hlocks
    rcases Decidable.em (nI (tr 0 n9) = 2) with c_39 | c_39
    · skip
      refine lv_tableIn (tgt := 128) hx hb dX6_run_43 (by rw [c_39]; decide) (by rw [c_39]; decide) (by rw [c_39]; rfl) (by decide) ?_
      have hk : tr 0 n9 = 2 := (nI_eq (a := tr 0 n9) (b := 2) (by have := (hTm.1 n9 hn).1; omega) (by omega)).mp c_39
      refine lv_aload_n hx hb dX6_run_128 rfl (lv_at hl 0 rfl) ?_
      refine lv_iload_n hx hb dX6_run_129 rfl (lv_at hl 1 rfl) ?_
      refine lv_iload_n hx hb dX6_run_130 rfl (lv_at hl 2 rfl) ?_
      refine lv_iload_n hx hb dX6_run_131 rfl (lv_at hl 3 rfl) ?_
      have hC0 := hC
      refine c_ci (c_runV (As := [.int (nI n9), .int (sgt e9), .int (nI d9)]) (rest := []) (q0 := 5) (ci := 6) ⟨hx, hb, hml, hown, htu⟩ (x_runName l G (cO S 111 (nI (bgn ws + 1))) fu ((wmb ws)) al f9 tr N dp mk d9 n9 e9 hC ih wb tj_6 te1 wW hTm h0 hn he hel hd (⟨by omega, by omega, by omega⟩) hk H) (cwV 3 htu hU_X6_100 rfl rfl rfl (by decide +kernel) ⟨show (2 * fu + 7) + 1 ≤ 2 * (fu + 1) + 6 by omega, show 8 + (6 + 11) + (60 * fu + 230) ≤ 60 * (fu + 1) + 200 by omega⟩) hP hK hD hC hpp cw_5 rfl rfl hl.1 rfl (lv_room (Nat.le_of_ble_eq_true rfl)) dX6_run_132) hS hD hh hpp (fun r_40 S_41 H locs hw_42 hP hD hS hC hh hs_43 hpp => ?_)
      try dsimp only at hw_42
      have aw_44 : AW [27, 28, 29, 30, 31, 32, 33, 34] [111, 112] (cO S 111 (nI (bgn ws + 1))) S_41 := hw_42.1
      have aw_44t : AW [27, 28, 29, 30, 31, 32, 33, 34] [111, 112] S S_41 := S_5w.tr (aw_44.mono (by decide) (by decide))
      have ii_45 : S_41.1 110 = nI al := (aw_44.1 110 (by decide)).trans ((cO_n (show 110 ≠ 111 by decide)).trans hR.1.2.2.2.1)
      have tj_46 : TJ S_41 N := TJ.aw tj_6 aw_44 (by decide)
      exact c_iret (v := r_40) hx hb hr hK hP hD hS hC hh hpp ⟨aw_44t, (by rw [wmx_s nc_1]; exact XQ.run (r := wmd tr mk (wmx tr mk al fu) (wmb ws) n9 e9) (by rw [wmd_2 hk]; exact hw_42.2) KP.beg hok.2.1)⟩ dX6_run_135 hlocks
    rcases Decidable.em (nI (tr 0 n9) = 3) with c_47 | c_47
    · skip
      refine lv_tableIn (tgt := 136) hx hb dX6_run_43 (by rw [c_47]; decide) (by rw [c_47]; decide) (by rw [c_47]; rfl) (by decide) ?_
      have hk : tr 0 n9 = 3 := (nI_eq (a := tr 0 n9) (b := 3) (by have := (hTm.1 n9 hn).1; omega) (by omega)).mp c_47
      refine lv_aload_n hx hb dX6_run_136 rfl (lv_at hl 0 rfl) ?_
      refine lv_iconst (v := 2) hx hb dX6_run_137 (by decide) ?_
      refine lv_iload_n hx hb dX6_run_138 rfl (lv_at hl 1 rfl) ?_
      refine lv_iload_n hx hb dX6_run_139 rfl (lv_at hl 2 rfl) ?_
      have va_48l : wnv ((wmb ws)) + 1 ≤ bgn ((wmb ws)) := by omega
      have va_48s := wb.sz
      have hC0 := hC
      refine c_ci (c_runV (As := [.int 2, .int (nI n9), .int (sgt e9)]) (rest := []) (q0 := 5) (ci := 6) ⟨hx, hb, hml, hown, htu⟩ (x_addValue l G (cO S 111 (nI (bgn ws + 1))) (wnv ((wmb ws))) 2 (nI n9) (sgt e9) hC wb.1.1.1 wb.1.1.2.1 wb.1.1.2.2 ((by omega)) H) (cwV 3 htu hU_X6_97 rfl rfl rfl (by decide +kernel) ⟨show 3 + 1 ≤ 2 * (fu + 1) + 6 by omega, show 8 + (4 + 11) + 103 ≤ 60 * (fu + 1) + 200 by omega⟩) hP hK hD hC hpp cw_5 rfl rfl hl.1 rfl (lv_room (Nat.le_of_ble_eq_true rfl)) dX6_run_140) hS hD hh hpp (fun r_49 S_50 H locs hw_51 hP hD hS hC hh hs_52 hpp => ?_)
      try dsimp only at hw_51
      have aw_53 : AW [27, 28, 29] [] (cO S 111 (nI (bgn ws + 1))) S_50 := hw_51.1
      have aw_53t : AW [27, 28, 29, 30, 31, 32, 33, 34] [111, 112] S S_50 := S_5w.tr (aw_53.mono (by decide) (by decide))
      have ii_54 : S_50.1 110 = nI al := (aw_53.1 110 (by decide)).trans ((cO_n (show 110 ≠ 111 by decide)).trans hR.1.2.2.2.1)
      have ii_55 : S_50.1 111 = nI (bgn ws + 1) := (aw_53.1 111 (by decide)).trans cO_s
      have tj_56 : TJ S_50 N := TJ.aw tj_6 aw_53 (by decide)
      exact c_iret (v := r_49) hx hb hr hK hP hD hS hC hh hpp ⟨aw_53t, (by rw [wmx_s nc_1]; exact XQ.run (r := wmd tr mk (wmx tr mk al fu) (wmb ws) n9 e9) (by rw [wmd_3 hk]; exact XQ.valv (RCw.val (so := 2) (n := n9) (e := e9) (x := 0) (fs := []) wb aw_53 hw_51.2.1 hw_51.2.2.1 va_48l rfl (fun z => absurd z (by decide)) (fun _ => ⟨rfl, rfl⟩) (fun z => absurd z (by decide))) h0 (Nat.le_refl _) (by omega) (KP.val KP.rf aw_53 hw_51.2.2.1 Xt.rf (fun z => absurd z (by decide))) hw_51.2.2.2) KP.beg hok.2.1)⟩ dX6_run_143 hlocks
    rcases Decidable.em (nI (tr 0 n9) = 4) with c_57 | c_57
    · skip
      refine lv_tableIn (tgt := 144) hx hb dX6_run_43 (by rw [c_57]; decide) (by rw [c_57]; decide) (by rw [c_57]; rfl) (by decide) ?_
      have hk : tr 0 n9 = 4 := (nI_eq (a := tr 0 n9) (b := 4) (by have := (hTm.1 n9 hn).1; omega) (by omega)).mp c_57
      refine lv_aload_n hx hb dX6_run_144 rfl (lv_at hl 0 rfl) ?_
      refine lv_iload_n hx hb dX6_run_145 rfl (lv_at hl 1 rfl) ?_
      refine lv_iload_n hx hb dX6_run_146 rfl (lv_at hl 2 rfl) ?_
      refine lv_iload_n hx hb dX6_run_147 rfl (lv_at hl 3 rfl) ?_
      have hC0 := hC
      refine c_ci (c_runV (As := [.int (nI n9), .int (sgt e9), .int (nI d9)]) (rest := []) (q0 := 5) (ci := 6) ⟨hx, hb, hml, hown, htu⟩ (x_runApply l G (cO S 111 (nI (bgn ws + 1))) fu ((wmb ws)) al f9 tr N dp mk d9 n9 e9 hC ih wb tj_6 te1 wW hTm h0 hn he hel hd (⟨by omega, by omega, by omega⟩) hk H) (cwV 3 htu hU_X6_103 rfl rfl rfl (by decide +kernel) ⟨show (2 * fu + 7) + 1 ≤ 2 * (fu + 1) + 6 by omega, show 8 + (8 + 11) + (60 * fu + 230) ≤ 60 * (fu + 1) + 200 by omega⟩) hP hK hD hC hpp cw_5 rfl rfl hl.1 rfl (lv_room (Nat.le_of_ble_eq_true rfl)) dX6_run_148) hS hD hh hpp (fun r_58 S_59 H locs hw_60 hP hD hS hC hh hs_61 hpp => ?_)
      try dsimp only at hw_60
      have aw_62 : AW [27, 28, 29, 30, 31, 32, 33, 34] [111, 112] (cO S 111 (nI (bgn ws + 1))) S_59 := hw_60.1
      have aw_62t : AW [27, 28, 29, 30, 31, 32, 33, 34] [111, 112] S S_59 := S_5w.tr (aw_62.mono (by decide) (by decide))
      have ii_63 : S_59.1 110 = nI al := (aw_62.1 110 (by decide)).trans ((cO_n (show 110 ≠ 111 by decide)).trans hR.1.2.2.2.1)
      have tj_64 : TJ S_59 N := TJ.aw tj_6 aw_62 (by decide)
      exact c_iret (v := r_58) hx hb hr hK hP hD hS hC hh hpp ⟨aw_62t, (by rw [wmx_s nc_1]; exact XQ.run (r := wmd tr mk (wmx tr mk al fu) (wmb ws) n9 e9) (by rw [wmd_4 hk]; exact hw_60.2) KP.beg hok.2.1)⟩ dX6_run_151 hlocks
    rcases Decidable.em (nI (tr 0 n9) = 5) with c_65 | c_65
    · skip
      refine lv_tableIn (tgt := 152) hx hb dX6_run_43 (by rw [c_65]; decide) (by rw [c_65]; decide) (by rw [c_65]; rfl) (by decide) ?_
      have hk : tr 0 n9 = 5 := (nI_eq (a := tr 0 n9) (b := 5) (by have := (hTm.1 n9 hn).1; omega) (by omega)).mp c_65
      refine lv_aload_n hx hb dX6_run_152 rfl (lv_at hl 0 rfl) ?_
      refine lv_iload_n hx hb dX6_run_153 rfl (lv_at hl 1 rfl) ?_
      refine lv_iload_n hx hb dX6_run_154 rfl (lv_at hl 2 rfl) ?_
      refine lv_iload_n hx hb dX6_run_155 rfl (lv_at hl 3 rfl) ?_
      have hC0 := hC
      refine c_ci (c_runV (As := [.int (nI n9), .int (sgt e9), .int (nI d9)]) (rest := []) (q0 := 5) (ci := 6) ⟨hx, hb, hml, hown, htu⟩ (x_runRecord l G (cO S 111 (nI (bgn ws + 1))) fu ((wmb ws)) al f9 tr N dp mk d9 n9 e9 hC ih wb tj_6 te1 wW hTm h0 hn he hel hd (⟨by omega, by omega, by omega⟩) hk H) (cwV 3 htu hU_X6_106 rfl rfl rfl (by decide +kernel) ⟨show (2 * fu + 7) + 1 ≤ 2 * (fu + 1) + 6 by omega, show 8 + (8 + 11) + (60 * fu + 230) ≤ 60 * (fu + 1) + 200 by omega⟩) hP hK hD hC hpp cw_5 rfl rfl hl.1 rfl (lv_room (Nat.le_of_ble_eq_true rfl)) dX6_run_156) hS hD hh hpp (fun r_66 S_67 H locs hw_68 hP hD hS hC hh hs_69 hpp => ?_)
      try dsimp only at hw_68
      have aw_70 : AW [27, 28, 29, 30, 31, 32, 33, 34] [111, 112] (cO S 111 (nI (bgn ws + 1))) S_67 := hw_68.1
      have aw_70t : AW [27, 28, 29, 30, 31, 32, 33, 34] [111, 112] S S_67 := S_5w.tr (aw_70.mono (by decide) (by decide))
      have ii_71 : S_67.1 110 = nI al := (aw_70.1 110 (by decide)).trans ((cO_n (show 110 ≠ 111 by decide)).trans hR.1.2.2.2.1)
      have tj_72 : TJ S_67 N := TJ.aw tj_6 aw_70 (by decide)
      exact c_iret (v := r_66) hx hb hr hK hP hD hS hC hh hpp ⟨aw_70t, (by rw [wmx_s nc_1]; exact XQ.run (r := wmd tr mk (wmx tr mk al fu) (wmb ws) n9 e9) (by rw [wmd_5 hk]; exact hw_68.2) KP.beg hok.2.1)⟩ dX6_run_159 hlocks
    rcases Decidable.em (nI (tr 0 n9) = 6) with c_73 | c_73
    · skip
      refine lv_tableIn (tgt := 160) hx hb dX6_run_43 (by rw [c_73]; decide) (by rw [c_73]; decide) (by rw [c_73]; rfl) (by decide) ?_
      have hk : tr 0 n9 = 6 := (nI_eq (a := tr 0 n9) (b := 6) (by have := (hTm.1 n9 hn).1; omega) (by omega)).mp c_73
      refine lv_aload_n hx hb dX6_run_160 rfl (lv_at hl 0 rfl) ?_
      refine lv_iload_n hx hb dX6_run_161 rfl (lv_at hl 1 rfl) ?_
      refine lv_iload_n hx hb dX6_run_162 rfl (lv_at hl 2 rfl) ?_
      refine lv_iload_n hx hb dX6_run_163 rfl (lv_at hl 3 rfl) ?_
      have hC0 := hC
      refine c_ci (c_runV (As := [.int (nI n9), .int (sgt e9), .int (nI d9)]) (rest := []) (q0 := 5) (ci := 6) ⟨hx, hb, hml, hown, htu⟩ (x_runField l G (cO S 111 (nI (bgn ws + 1))) fu ((wmb ws)) al f9 tr N dp mk d9 n9 e9 hC ih wb tj_6 te1 wW hTm h0 hn he hel hd (⟨by omega, by omega, by omega⟩) hk H) (cwV 3 htu hU_X6_109 rfl rfl rfl (by decide +kernel) ⟨show (2 * fu + 7) + 1 ≤ 2 * (fu + 1) + 6 by omega, show 8 + (6 + 11) + (60 * fu + 230) ≤ 60 * (fu + 1) + 200 by omega⟩) hP hK hD hC hpp cw_5 rfl rfl hl.1 rfl (lv_room (Nat.le_of_ble_eq_true rfl)) dX6_run_164) hS hD hh hpp (fun r_74 S_75 H locs hw_76 hP hD hS hC hh hs_77 hpp => ?_)
      try dsimp only at hw_76
      have aw_78 : AW [27, 28, 29, 30, 31, 32, 33, 34] [111, 112] (cO S 111 (nI (bgn ws + 1))) S_75 := hw_76.1
      have aw_78t : AW [27, 28, 29, 30, 31, 32, 33, 34] [111, 112] S S_75 := S_5w.tr (aw_78.mono (by decide) (by decide))
      have ii_79 : S_75.1 110 = nI al := (aw_78.1 110 (by decide)).trans ((cO_n (show 110 ≠ 111 by decide)).trans hR.1.2.2.2.1)
      have tj_80 : TJ S_75 N := TJ.aw tj_6 aw_78 (by decide)
      exact c_iret (v := r_74) hx hb hr hK hP hD hS hC hh hpp ⟨aw_78t, (by rw [wmx_s nc_1]; exact XQ.run (r := wmd tr mk (wmx tr mk al fu) (wmb ws) n9 e9) (by rw [wmd_6 hk]; exact hw_76.2) KP.beg hok.2.1)⟩ dX6_run_167 hlocks
    rcases Decidable.em (nI (tr 0 n9) = 7) with c_81 | c_81
    · skip
      refine lv_tableIn (tgt := 168) hx hb dX6_run_43 (by rw [c_81]; decide) (by rw [c_81]; decide) (by rw [c_81]; rfl) (by decide) ?_
      have hk : tr 0 n9 = 7 := (nI_eq (a := tr 0 n9) (b := 7) (by have := (hTm.1 n9 hn).1; omega) (by omega)).mp c_81
      refine lv_aload_n hx hb dX6_run_168 rfl (lv_at hl 0 rfl) ?_
      refine lv_iload_n hx hb dX6_run_169 rfl (lv_at hl 1 rfl) ?_
      refine lv_iload_n hx hb dX6_run_170 rfl (lv_at hl 2 rfl) ?_
      refine lv_iload_n hx hb dX6_run_171 rfl (lv_at hl 3 rfl) ?_
      have hC0 := hC
      refine c_ci (c_runV (As := [.int (nI n9), .int (sgt e9), .int (nI d9)]) (rest := []) (q0 := 5) (ci := 6) ⟨hx, hb, hml, hown, htu⟩ (x_runLet l G (cO S 111 (nI (bgn ws + 1))) fu ((wmb ws)) al f9 tr N dp mk d9 n9 e9 hC ih wb tj_6 te1 wW hTm h0 hn he hel hd (⟨by omega, by omega, by omega⟩) hk H) (cwV 3 htu hU_X6_112 rfl rfl rfl (by decide +kernel) ⟨show (2 * fu + 7) + 1 ≤ 2 * (fu + 1) + 6 by omega, show 8 + (5 + 11) + (60 * fu + 230) ≤ 60 * (fu + 1) + 200 by omega⟩) hP hK hD hC hpp cw_5 rfl rfl hl.1 rfl (lv_room (Nat.le_of_ble_eq_true rfl)) dX6_run_172) hS hD hh hpp (fun r_82 S_83 H locs hw_84 hP hD hS hC hh hs_85 hpp => ?_)
      try dsimp only at hw_84
      have aw_86 : AW [27, 28, 29, 30, 31, 32, 33, 34] [111, 112] (cO S 111 (nI (bgn ws + 1))) S_83 := hw_84.1
      have aw_86t : AW [27, 28, 29, 30, 31, 32, 33, 34] [111, 112] S S_83 := S_5w.tr (aw_86.mono (by decide) (by decide))
      have ii_87 : S_83.1 110 = nI al := (aw_86.1 110 (by decide)).trans ((cO_n (show 110 ≠ 111 by decide)).trans hR.1.2.2.2.1)
      have tj_88 : TJ S_83 N := TJ.aw tj_6 aw_86 (by decide)
      exact c_iret (v := r_82) hx hb hr hK hP hD hS hC hh hpp ⟨aw_86t, (by rw [wmx_s nc_1]; exact XQ.run (r := wmd tr mk (wmx tr mk al fu) (wmb ws) n9 e9) (by rw [wmd_7 hk]; exact hw_84.2) KP.beg hok.2.1)⟩ dX6_run_175 hlocks
    rcases Decidable.em (nI (tr 0 n9) = 8) with c_89 | c_89
    · skip
      refine lv_tableIn (tgt := 176) hx hb dX6_run_43 (by rw [c_89]; decide) (by rw [c_89]; decide) (by rw [c_89]; rfl) (by decide) ?_
      have hk : tr 0 n9 = 8 := (nI_eq (a := tr 0 n9) (b := 8) (by have := (hTm.1 n9 hn).1; omega) (by omega)).mp c_89
      refine lv_aload_n hx hb dX6_run_176 rfl (lv_at hl 0 rfl) ?_
      refine lv_iload_n hx hb dX6_run_177 rfl (lv_at hl 1 rfl) ?_
      refine lv_iload_n hx hb dX6_run_178 rfl (lv_at hl 2 rfl) ?_
      refine lv_iload_n hx hb dX6_run_179 rfl (lv_at hl 3 rfl) ?_
      have hC0 := hC
      refine c_ci (c_runV (As := [.int (nI n9), .int (sgt e9), .int (nI d9)]) (rest := []) (q0 := 5) (ci := 6) ⟨hx, hb, hml, hown, htu⟩ (x_runRec l G (cO S 111 (nI (bgn ws + 1))) fu ((wmb ws)) al f9 tr N dp mk d9 n9 e9 hC ih wb tj_6 te1 wW hTm h0 hn he hel hd (⟨by omega, by omega, by omega⟩) hk H) (cwV 3 htu hU_X6_115 rfl rfl rfl (by decide +kernel) ⟨show (2 * fu + 7) + 1 ≤ 2 * (fu + 1) + 6 by omega, show 8 + (4 + 11) + (60 * fu + 230) ≤ 60 * (fu + 1) + 200 by omega⟩) hP hK hD hC hpp cw_5 rfl rfl hl.1 rfl (lv_room (Nat.le_of_ble_eq_true rfl)) dX6_run_180) hS hD hh hpp (fun r_90 S_91 H locs hw_92 hP hD hS hC hh hs_93 hpp => ?_)
      try dsimp only at hw_92
      have aw_94 : AW [27, 28, 29, 30, 31, 32, 33, 34] [111, 112] (cO S 111 (nI (bgn ws + 1))) S_91 := hw_92.1
      have aw_94t : AW [27, 28, 29, 30, 31, 32, 33, 34] [111, 112] S S_91 := S_5w.tr (aw_94.mono (by decide) (by decide))
      have ii_95 : S_91.1 110 = nI al := (aw_94.1 110 (by decide)).trans ((cO_n (show 110 ≠ 111 by decide)).trans hR.1.2.2.2.1)
      have tj_96 : TJ S_91 N := TJ.aw tj_6 aw_94 (by decide)
      exact c_iret (v := r_90) hx hb hr hK hP hD hS hC hh hpp ⟨aw_94t, (by rw [wmx_s nc_1]; exact XQ.run (r := wmd tr mk (wmx tr mk al fu) (wmb ws) n9 e9) (by rw [wmd_8 hk]; exact hw_92.2) KP.beg hok.2.1)⟩ dX6_run_183 hlocks
    rcases Decidable.em (nI (tr 0 n9) = 9) with c_97 | c_97
    · skip
      refine lv_tableIn (tgt := 184) hx hb dX6_run_43 (by rw [c_97]; decide) (by rw [c_97]; decide) (by rw [c_97]; rfl) (by decide) ?_
      have hk : tr 0 n9 = 9 := (nI_eq (a := tr 0 n9) (b := 9) (by have := (hTm.1 n9 hn).1; omega) (by omega)).mp c_97
      refine lv_aload_n hx hb dX6_run_184 rfl (lv_at hl 0 rfl) ?_
      refine lv_iload_n hx hb dX6_run_185 rfl (lv_at hl 1 rfl) ?_
      refine lv_iload_n hx hb dX6_run_186 rfl (lv_at hl 2 rfl) ?_
      refine lv_iload_n hx hb dX6_run_187 rfl (lv_at hl 3 rfl) ?_
      have hC0 := hC
      refine c_ci (c_runV (As := [.int (nI n9), .int (sgt e9), .int (nI d9)]) (rest := []) (q0 := 5) (ci := 6) ⟨hx, hb, hml, hown, htu⟩ (x_runPick l G (cO S 111 (nI (bgn ws + 1))) fu ((wmb ws)) al f9 tr N dp mk d9 n9 e9 hC ih wb tj_6 te1 wW hTm h0 hn he hel hd (⟨by omega, by omega, by omega⟩) hk H) (cwV 3 htu hU_X6_118 rfl rfl rfl (by decide +kernel) ⟨show (2 * fu + 7) + 1 ≤ 2 * (fu + 1) + 6 by omega, show 8 + (5 + 11) + (60 * fu + 230) ≤ 60 * (fu + 1) + 200 by omega⟩) hP hK hD hC hpp cw_5 rfl rfl hl.1 rfl (lv_room (Nat.le_of_ble_eq_true rfl)) dX6_run_188) hS hD hh hpp (fun r_98 S_99 H locs hw_100 hP hD hS hC hh hs_101 hpp => ?_)
      try dsimp only at hw_100
      have aw_102 : AW [27, 28, 29, 30, 31, 32, 33, 34] [111, 112] (cO S 111 (nI (bgn ws + 1))) S_99 := hw_100.1
      have aw_102t : AW [27, 28, 29, 30, 31, 32, 33, 34] [111, 112] S S_99 := S_5w.tr (aw_102.mono (by decide) (by decide))
      have ii_103 : S_99.1 110 = nI al := (aw_102.1 110 (by decide)).trans ((cO_n (show 110 ≠ 111 by decide)).trans hR.1.2.2.2.1)
      have tj_104 : TJ S_99 N := TJ.aw tj_6 aw_102 (by decide)
      exact c_iret (v := r_98) hx hb hr hK hP hD hS hC hh hpp ⟨aw_102t, (by rw [wmx_s nc_1]; exact XQ.run (r := wmd tr mk (wmx tr mk al fu) (wmb ws) n9 e9) (by rw [wmd_9 hk]; exact hw_100.2) KP.beg hok.2.1)⟩ dX6_run_191 hlocks
    have hout : (nI (tr 0 n9)).toInt < 0 ∨ 9 < (nI (tr 0 n9)).toInt := tb_out (nI (tr 0 n9)) 0 9 (fun z h1 h2 e => by
      rcases (show z = 0 ∨ z = 1 ∨ z = 2 ∨ z = 3 ∨ z = 4 ∨ z = 5 ∨ z = 6 ∨ z = 7 ∨ z = 8 ∨ z = 9 by omega) with rfl | rfl | rfl | rfl | rfl | rfl | rfl | rfl | rfl | rfl
      · exact c_11 (Int32.toInt_inj.mp (e.trans (by decide)))
      · exact c_25 (Int32.toInt_inj.mp (e.trans (by decide)))
      · exact c_39 (Int32.toInt_inj.mp (e.trans (by decide)))
      · exact c_47 (Int32.toInt_inj.mp (e.trans (by decide)))
      · exact c_57 (Int32.toInt_inj.mp (e.trans (by decide)))
      · exact c_65 (Int32.toInt_inj.mp (e.trans (by decide)))
      · exact c_73 (Int32.toInt_inj.mp (e.trans (by decide)))
      · exact c_81 (Int32.toInt_inj.mp (e.trans (by decide)))
      · exact c_89 (Int32.toInt_inj.mp (e.trans (by decide)))
      · exact c_97 (Int32.toInt_inj.mp (e.trans (by decide))))
    refine lv_tableOut (tgt := 192) hx hb dX6_run_43 hout (by decide) ?_
    refine lv_aload_n hx hb dX6_run_192 rfl (lv_at hl 0 rfl) ?_
    refine lv_iload_n hx hb dX6_run_193 rfl (lv_at hl 1 rfl) ?_
    refine lv_iload_n hx hb dX6_run_194 rfl (lv_at hl 2 rfl) ?_
    refine lv_iload_n hx hb dX6_run_195 rfl (lv_at hl 3 rfl) ?_
    have hk : tr 0 n9 = 10 ∨ tr 0 n9 = 11 := by
      have h11 := (hTm.1 n9 hn).1
      have g0 : tr 0 n9 ≠ 0 := fun z => c_11 (by rw [z]; rfl)
      have g1 : tr 0 n9 ≠ 1 := fun z => c_25 (by rw [z]; rfl)
      have g2 : tr 0 n9 ≠ 2 := fun z => c_39 (by rw [z]; rfl)
      have g3 : tr 0 n9 ≠ 3 := fun z => c_47 (by rw [z]; rfl)
      have g4 : tr 0 n9 ≠ 4 := fun z => c_57 (by rw [z]; rfl)
      have g5 : tr 0 n9 ≠ 5 := fun z => c_65 (by rw [z]; rfl)
      have g6 : tr 0 n9 ≠ 6 := fun z => c_73 (by rw [z]; rfl)
      have g7 : tr 0 n9 ≠ 7 := fun z => c_81 (by rw [z]; rfl)
      have g8 : tr 0 n9 ≠ 8 := fun z => c_89 (by rw [z]; rfl)
      have g9 : tr 0 n9 ≠ 9 := fun z => c_97 (by rw [z]; rfl)
      omega
    have hC0 := hC
    refine c_ci (c_runV (As := [.int (nI n9), .int (sgt e9), .int (nI d9)]) (rest := []) (q0 := 5) (ci := 6) ⟨hx, hb, hml, hown, htu⟩ (x_runWholes l G (cO S 111 (nI (bgn ws + 1))) fu ((wmb ws)) al f9 tr N dp mk d9 n9 e9 hC ih wb tj_6 te1 wW hTm h0 hn he hel hd (⟨by omega, by omega, by omega⟩) hk H) (cwV 3 htu hU_X6_121 rfl rfl rfl (by decide +kernel) ⟨show (2 * fu + 7) + 1 ≤ 2 * (fu + 1) + 6 by omega, show 8 + (8 + 11) + (60 * fu + 230) ≤ 60 * (fu + 1) + 200 by omega⟩) hP hK hD hC hpp cw_5 rfl rfl hl.1 rfl (lv_room (Nat.le_of_ble_eq_true rfl)) dX6_run_196) hS hD hh hpp (fun r_105 S_106 H locs hw_107 hP hD hS hC hh hs_108 hpp => ?_)
    try dsimp only at hw_107
    have aw_109 : AW [27, 28, 29, 30, 31, 32, 33, 34] [111, 112] (cO S 111 (nI (bgn ws + 1))) S_106 := hw_107.1
    have aw_109t : AW [27, 28, 29, 30, 31, 32, 33, 34] [111, 112] S S_106 := S_5w.tr (aw_109.mono (by decide) (by decide))
    have ii_110 : S_106.1 110 = nI al := (aw_109.1 110 (by decide)).trans ((cO_n (show 110 ≠ 111 by decide)).trans hR.1.2.2.2.1)
    have tj_111 : TJ S_106 N := TJ.aw tj_6 aw_109 (by decide)
    exact c_iret (v := r_105) hx hb hr hK hP hD hS hC hh hpp ⟨aw_109t, (by rw [wmx_s nc_1]; exact XQ.run (r := wmd tr mk (wmx tr mk al fu) (wmb ws) n9 e9) (by rw [wmd_10 hk]; exact hw_107.2) KP.beg hok.2.1)⟩ dX6_run_199 hlocks

theorem x_run_all : ∀ fu, xRunAt fu := by
  intro fu
  induction fu with
  | zero => exact fun l G S ws al f9 tr N dp mk d9 n9 e9 hC hR hT hE hWf hTm h0 hn he hel hd Hs => x_run_0 l G S ws al f9 tr N dp mk d9 n9 e9 hC hR hT hE hWf hTm h0 hn he hel hd Hs
  | succ fu ih => exact fun l G S ws al f9 tr N dp mk d9 n9 e9 hC hR hT hE hWf hTm h0 hn he hel hd Hs => x_run_s l G S fu ws al f9 tr N dp mk d9 n9 e9 hC ih hR hT hE hWf hTm h0 hn he hel hd Hs

