set_option maxHeartbeats 4000000 in
set_option maxRecDepth 100000 in
/-- typedWholes -/
theorem x_typedSum (l : Launch) (G : cG) (S : cS) (fu : Nat) (T : Nat) (V : Nat) (X : Nat) (Y : Nat) (Z : Nat) (q : Nat) (N : Nat) (dp : Nat) (lv : Nat) (tr : aM) (mk : Nat → Int32) (rk : Nat → Nat) (top : Nat) (gs : Nat → Prop) (z : aS) (n9 : Nat) (tm : Nat) (hC : CL S) (ih : xTypedAt fu) (hU : US S T V X Y Z q) (hq : q ≤ 1500) (h15 : kK S 15 = 0) (hT : TJ S N) (hdp : dp + (fu + 1) = 61) (hlv : lv ≤ dp) (hY2 : Y + (6 * (fu + 1) + 372) ≤ 900) (hE : TC S tr mk N) (hO : TO S tr N) (hrk : RKs tr rk N) (hn : n9 < N) (htp : top < N) (h11 : S.1 11 = nI top) (hcv : ∀ j, Cv gs tr top j n9) (hz : KT S z) (hkq : KQ S z) (hm0 : KM0 S tm) (h8 : S.1 8 = nI tm) (htm : tm + 1501 + cntT tr ((fu + 1)) n9 ≤ 2 ^ 29 + stp z) (h0 : sto z = 0) (hzq : stp z = q) (h13 : S.1 13 = -9) (hk2 : kK S 23 = 120 ∧ kK S 24 = 120) (hgc : GC gs z S) (hkd : tr 0 n9 = 10) (Hs : Heap) : Met l yX5_typedWholes (wC yX5_typedWholes cX5_typedWholes 7 (some .int)) (cRm S (2 * fu + 141) (60 * fu + 6530)) (cPc G S Hs [.ref (ga G 4), .int (nI n9), .int (nI lv), .int (nI dp)]) (cQi G S Hs (fun v u => AW [6, 7, 8, 9, 16, 14, 10, 11, 12, 13, 17, 18, 23, 24, 25, 26, 35] [8, 9, 10, 12, 13] S u ∧ (TX u T V Y q (6 * (fu + 1) + 372) v ∧ YF S u Y tm (cntT tr (fu + 1) n9) gs n9 z (ty tr top (fu + 1) z n9 lv) v))) (CC - PT S) (12 * (CC - PT S)) (cA G S Hs.size) := by
  refine Met.ofW (cc := cX5_typedWholes) (maxL := 7) (ret := (some .int)) (by decide) rfl ?_
  intro p e s m args below meth c s₁ B hml hv
  obtain ⟨rfl, hsz, hP, hK, hD0, -⟩ := hv
  have hx := B.exec
  have hb := B.bytes
  have hr := B.returns
  have htu : ∀ w ∈ CU, w.before _ s = true := fun w h => atoms_spec (ws := (wC yX5_typedWholes cX5_typedWholes 7 (some .int))) B.pre w (List.mem_cons_of_mem _ h)
  have hown : s.vm.findClass RX5 = some m.cls := findClass_of_methodNamed B.named
  have hlocks := B.notSynchronized
  subst hsz
  have hD : cD (cA G S s.heap.size) G S := cD_self hD0
  have hl := lv_entry ([.ref (ga G 4), .int (nI n9), .int (nI lv), .int (nI dp)]) (n := 7) (Nat.le_of_ble_eq_true rfl)
  rw [lg_entry_eq]
  generalize (lg_sl ([.ref (ga G 4), .int (nI n9), .int (nI lv), .int (nI dp)]) ++ List.replicate (7 - (lg_sl ([.ref (ga G 4), .int (nI n9), .int (nI lv), .int (nI dp)])).length) Slot.unset).toArray = ls at hl ⊢
  have hl : lv_has ls 7 [(0, .ref (ga G 4)), (1, .int (nI n9)), (2, .int (nI lv)), (3, .int (nI dp))] := hl
  obtain ⟨H, hHe⟩ : ∃ H : Heap, H = s.heap := ⟨_, rfl⟩
  rw [← hHe] at hP
  have hS : va_S (cA G S s.heap.size) s.heap H [] := by rw [hHe]; exact va_S.rf
  have hh : HS S S := HS.rf
  have hpp : PT S ≤ PT S := Nat.le_refl _
  have hB9 := hC.1
  refine W.heq hHe ?_
  refine c_ent (S := S) ?_
  obtain ⟨tT, tV, tB, tX⟩ := id hU.1.2.1
  have yc0 : YC S S Y tm 0 gs z z tm gs := ⟨hz, hkq, hm0, h8, ⟨Nat.le_refl _, Nat.le_refl _, by omega⟩, fun _ _ => ⟨rfl, rfl⟩, hk2, fun _ => ⟨fun _ h => h, hgc⟩⟩
  have hp9 : prts (tr 0 n9) (tr 2 n9) = 2 := by rw [hkd]; rfl
  obtain ⟨Y1, Y2, Y3, Y4, e1, e2, e3, e4, er⟩ := ty_10 (top := top) (k := fu) (l := lv) h0 hkd
  have hct := cnt_2 (tr := tr) (k := fu) (n := n9) hp9
  refine lv_iconst (v := 0) hx hb dX5_typedWholes_0 (by decide) ?_
  refine lv_istore (lv' := [(4, .int 0), (0, .ref (ga G 4)), (1, .int (nI n9)), (2, .int (nI lv)), (3, .int (nI dp))]) hx hb dX5_typedWholes_1 hl (by decide) rfl (fun ls hl => ?_)
  refine lv_iload hx hb dX5_typedWholes_3 (lv_at hl 0 rfl) ?_
  refine lv_iconst (v := 1) hx hb dX5_typedWholes_5 (by decide) ?_
  refine lv_icmp_gt (tgt := 63) hx hb dX5_typedWholes_6 (by decide) (fun c_1 => absurd c_1 (by decide)) (fun c_1 => ?_)
  refine lv_aload_n hx hb dX5_typedWholes_9 rfl (lv_at hl 1 rfl) ?_
  refine lv_aload_n hx hb dX5_typedWholes_10 rfl (lv_at hl 1 rfl) ?_
  refine va_get (D := gD G) (ci := 5) (v := .ref (ga G 1)) (C := RX5) (T := TX5) (N := 15) hx hb htu cu_in5 hown hK hP 4 cw_4 rfl 0 (by decide) (htu _ C_60) (fun _ h9 => h9) rfl dX5_typedWholes_11 ?_
  refine lv_iload_n hx hb dX5_typedWholes_14 rfl (lv_at hl 2 rfl) ?_
  refine lv_iload hx hb dX5_typedWholes_15 (lv_at hl 0 rfl) ?_
  have hC0 := hC
  refine c_ci (c_runV (As := [.int (nI n9), .int 0]) (rest := [.ref (ga G 4)]) (q0 := 1) (ci := 3) ⟨hx, hb, hml, hown, htu⟩ (tt_partOf l G S N (nI n9) 0 hC hT.1 H) (cwV 2 htu hU_X5_144 rfl rfl rfl (by decide +kernel) ⟨show 1 + 1 ≤ 2 * fu + 141 by omega, show 8 + (3 + 11) + 21 ≤ 60 * fu + 6530 by omega⟩) hP hK hD hC hpp cw_1 rfl rfl hl.1 rfl (lv_room (Nat.le_of_ble_eq_true rfl)) dX5_typedWholes_17) hS hD hh hpp (fun r_2 S_3 H locs hw_4 hP hD hS hC hh hs_5 hpq => ?_)
  clear hpp
  have hpp := hpq
  clear hpq
  obtain ⟨-, hu9, hw_4⟩ := hw_4
  have hu9 := hu9.symm
  subst hu9
  obtain rfl : r_2 = nI (tr 10 n9) := hw_4.trans ((hE.aw (AW.rf (rs := []) (is := [])) (by decide)).part hn (i := 0) (by rw [hp9]; decide))
  refine lv_iload_n hx hb dX5_typedWholes_20 rfl (lv_at hl 3 rfl) ?_
  refine lv_iload_n hx hb dX5_typedWholes_21 rfl (lv_at hl 4 rfl) ?_
  refine lv_iconst (v := 1) hx hb dX5_typedWholes_22 (by decide) ?_
  refine lv_iadd hx hb dX5_typedWholes_23 ?_
  refine m_top (y := nI (dp + 1)) (nI_add dp 1) ?_
  have hC0 := hC
  refine c_ci (c_runV (As := [.int (nI (tr 10 n9)), .int (nI lv), .int (nI (dp + 1))]) (rest := []) (q0 := 4) (ci := 5) ⟨hx, hb, hml, hown, htu⟩ (ih l G S T V X Y Z q N ((dp + 1)) lv tr mk rk top gs z ((tr 10 n9)) tm hC hU ((by omega)) h15 hT ((by omega)) ((by omega)) ((by omega)) ((hE.aw (AW.rf (rs := []) (is := [])) (by decide))) ((hO.aw (AW.rf (rs := []) (is := [])) (by decide))) hrk ((hE.plt hn (i := 0) (by rw [hp9]; decide))) htp ((((AW.rf (rs := []) (is := [])).1 11 (by decide)).trans h11)) ((Cv.part hcv ((hO n9 hn).2.2.1 0 (by rw [hp9]; decide)) (yc0.2.2.2.2.2.2.2 h0).1 (fun h => by unfold covers at h; omega))) yc0.1 yc0.2.1 yc0.2.2.1 yc0.2.2.2.1 ((by have := yc0.2.2.2.2.1; omega)) h0 hzq h13 yc0.2.2.2.2.2.2.1 ((yc0.2.2.2.2.2.2.2 h0).2) H) (cwV 3 htu hU_X5_77 rfl rfl rfl (by decide +kernel) ⟨show (2 * fu + 140) + 1 ≤ 2 * fu + 141 by omega, show 8 + (5 + 11) + (60 * fu + 6500) ≤ 60 * fu + 6530 by omega⟩) hP hK hD hC hpp cw_4 rfl rfl hl.1 rfl (lv_room (Nat.le_of_ble_eq_true rfl)) dX5_typedWholes_24) hS hD hh hpp (fun r_6 S_7 H locs hw_8 hP hD hS hC hh hs_9 hpq => ?_)
  clear hpp
  have hpp := hpq
  clear hpq
  try dsimp only at hw_8
  have aw_10 : AW [6, 7, 8, 9, 16, 14, 10, 11, 12, 13, 17, 18, 23, 24, 25, 26, 35] [8, 9, 10, 12, 13] S S_7 := hw_8.1
  have aw_10t : AW [6, 7, 8, 9, 16, 14, 10, 11, 12, 13, 17, 18, 23, 24, 25, 26, 35] [8, 9, 10, 12, 13] S S_7 := AW.rf.tr (aw_10.mono (by decide) (by decide))
  have kk_11 : kK S_7 15 = 0 := (aw_10.2.1 15 (lt35 (by decide)) (by decide)).2.trans h15
  have tj_12 : TJ S_7 N := TJ.aw hT aw_10 (by decide)
  obtain ⟨tx_13A, tx_13E⟩ := hw_8.2
  clear hw_8
  rw [← e1] at tx_13E
  obtain ⟨⟨tx_13t, tx_13gs, tx_13y0⟩, tx_13g, tx_13b⟩ := tx_13E
  have tx_13yc := YC.tr yc0 tx_13y0 (show Y ≤ Y by omega) h0
  have nm_14 : nT z ≤ nT Y1.1 := by rw [e1]; exact (x_ty _ _ _ _ _ _).1
  rcases Nat.eq_zero_or_pos (sto Y1.1) with tx_13z | tx_13z
  · skip
    obtain ⟨tx_13v, tx_13x, tx_1312, tx_1313⟩ := tx_13g tx_13z
    subst tx_13v
    have tx_136 := tx_13yc.1.1.2.2.2.2.2.2.2.1
    have tx_130 : 0 ≤ nI Y1.2 := Int32.not_lt.mp (nI_n0 (by omega))
    obtain ⟨tx_13T, tx_13V, tx_13X, tx_13Z, tx_13q, tx_13u, tx_131, tx_132, tx_133, tx_134⟩ := tx_13A.ok tx_130
    obtain ⟨tx_13tT, tx_13tV, tx_13tB, tx_13tX⟩ := id tx_13u.1.2.1
    have tx_13sq : stp Y1.1 = tx_13q := (nI_eq (by have := tx_13yc.2.2.2.2.1; omega) (by omega)).mp (tx_1312.symm.trans tx_13u.2.1)
    clear tx_13g tx_13b tx_13A
    refine lv_istore (lv' := [(5, .int (nI Y1.2)), (4, .int 0), (0, .ref (ga G 4)), (1, .int (nI n9)), (2, .int (nI lv)), (3, .int (nI dp))]) hx hb dX5_typedWholes_27 hl (by decide) rfl (fun ls hl => ?_)
    refine lv_iload hx hb dX5_typedWholes_29 (lv_at hl 0 rfl) ?_
    refine lv_if_ge (tgt := 39) hx hb dX5_typedWholes_31 (by decide) (fun c_15 => ?_) (fun c_15 => absurd (Int32.not_lt.mp (nI_n0 (by omega))) c_15)
    refine lv_aload_n hx hb dX5_typedWholes_39 rfl (lv_at hl 2 rfl) ?_
    refine lv_iload hx hb dX5_typedWholes_40 (lv_at hl 0 rfl) ?_
    refine lv_iconst (v := 0) hx hb dX5_typedWholes_42 (by decide) ?_
    refine lv_iconst (v := 1) hx hb dX5_typedWholes_43 (by decide) ?_
    have ya_16 := yc_askn tx_13yc n9
    have hC0 := hC
    refine c_ci (c_runV (As := [.int (nI Y1.2), .int 0, .int 1]) (rest := []) (q0 := 4) (ci := 5) ⟨hx, hb, hml, hown, htu⟩ ((x_under_all 60) l G S_7 tx_13T tx_13V tx_13X Y tx_13Z tx_13q 1 ((w1 Y1.1 0 5 n9)) Y1.2 0 tx_13t hC tx_13u ((by omega)) kk_11 ((show 1 + 60 = 61 by decide)) ((by omega)) ya_16.1 ya_16.2.1 ya_16.2.2.1 ya_16.2.2.2.1 ((by have := ya_16.2.2.2.2.1; omega)) tx_13z tx_13sq tx_13x ((Nat.lt_of_lt_of_le (by decide) tx_13yc.1.1.2.2.2.2.2.2.2.2.2.1)) H) (cwV 3 htu hU_X5_150 rfl rfl rfl (by decide +kernel) ⟨show (60 + 70) + 1 ≤ 2 * fu + 141 by omega, show 8 + (8 + 11) + (40 * 60 + 3000) ≤ 60 * fu + 6530 by omega⟩) hP hK hD hC hpp cw_4 rfl rfl hl.1 rfl (lv_room (Nat.le_of_ble_eq_true rfl)) dX5_typedWholes_44) hS hD hh hpp (fun r_17 S_18 H locs hw_19 hP hD hS hC hh hs_20 hpq => ?_)
    clear hpp
    have hpp := hpq
    clear hpq
    try dsimp only at hw_19
    have aw_21 : AW [6, 7, 8, 9, 16, 14, 10, 11, 12, 13, 17, 18, 25, 26, 35] [8, 9, 10, 12] S_7 S_18 := hw_19.1
    have aw_21t : AW [6, 7, 8, 9, 16, 14, 10, 11, 12, 13, 17, 18, 23, 24, 25, 26, 35] [8, 9, 10, 12, 13] S S_18 := aw_10t.tr (aw_21.mono (by decide) (by decide))
    have kk_22 : kK S_18 15 = 0 := (aw_21.2.1 15 (lt35 (by decide)) (by decide)).2.trans kk_11
    have tj_23 : TJ S_18 N := TJ.aw tj_12 aw_21 (by decide)
    have tx_24e : Y2 = un 60 (w1 Y1.1 0 5 n9) Y1.2 0 := e2.trans (puts_e tx_13z)
    obtain ⟨tx_24A0, tx_24E⟩ := hw_19.2
    clear hw_19
    have tx_24A := UX.tx tx_24A0
    clear tx_24A0
    rw [← tx_24e] at tx_24E
    obtain ⟨⟨tx_24t, tx_24uc⟩, tx_24M⟩ := tx_24E
    have tx_24yc := yc_under ya_16 tx_24uc aw_21 (by decide) (by rw [tx_24e]; exact k_un _ _ _ _) (by rw [tx_24e]; exact (x_un _ _ _ _).1) (fun _ => tx_13z)
    have nm_25 : nT Y1.1 ≤ nT Y2 := by rw [tx_24e]; exact (x_un 60 (w1 Y1.1 0 5 n9) _ _).1
    have vl_26 : Y1.2 < nT Y2 := Nat.lt_of_lt_of_le tx_13x nm_25
    have tx_2413 : S_18.1 13 = -9 := (aw_21.1 13 (by decide)).trans tx_1313
    rcases Nat.eq_zero_or_pos (sto Y2) with tx_24z | tx_24z
    · skip
      obtain ⟨tx_24v, tx_2412⟩ := tx_24M.1 tx_24z
      subst tx_24v
      obtain ⟨tx_24T, tx_24V, tx_24X, tx_24Z, tx_24q, tx_24u, tx_241, tx_242, tx_243, tx_244⟩ := tx_24A.ok (by decide)
      obtain ⟨tx_24tT, tx_24tV, tx_24tB, tx_24tX⟩ := id tx_24u.1.2.1
      have tx_24sq : stp Y2 = tx_24q := (nI_eq (by have := tx_24yc.2.2.2.2.1; omega) (by omega)).mp (tx_2412.symm.trans tx_24u.2.1)
      clear tx_24A tx_24M
      refine lv_istore (lv' := [(6, .int 0), (5, .int (nI Y1.2)), (4, .int 0), (0, .ref (ga G 4)), (1, .int (nI n9)), (2, .int (nI lv)), (3, .int (nI dp))]) hx hb dX5_typedWholes_47 hl (by decide) rfl (fun ls hl => ?_)
      refine lv_iload hx hb dX5_typedWholes_49 (lv_at hl 0 rfl) ?_
      refine lv_if_ge (tgt := 57) hx hb dX5_typedWholes_51 (by decide) (fun c_27 => ?_) (fun c_27 => absurd (by decide) c_27)
      refine lv_iinc (v := 1) (lv' := [(4, .int 1), (6, .int 0), (5, .int (nI Y1.2)), (0, .ref (ga G 4)), (1, .int (nI n9)), (2, .int (nI lv)), (3, .int (nI dp))]) hx hb dX5_typedWholes_57 hl (k := 2) rfl (by decide) (by decide) rfl (fun ls hl => ?_)
      refine lv_goto (tgt := 3) hx hb dX5_typedWholes_60 (by decide) ?_
      refine lv_iload hx hb dX5_typedWholes_3 (lv_at hl 0 rfl) ?_
      refine lv_iconst (v := 1) hx hb dX5_typedWholes_5 (by decide) ?_
      refine lv_icmp_gt (tgt := 63) hx hb dX5_typedWholes_6 (by decide) (fun c_28 => absurd c_28 (by decide)) (fun c_28 => ?_)
      refine lv_aload_n hx hb dX5_typedWholes_9 rfl (lv_at hl 3 rfl) ?_
      refine lv_aload_n hx hb dX5_typedWholes_10 rfl (lv_at hl 3 rfl) ?_
      refine va_get (D := gD G) (ci := 5) (v := .ref (ga G 1)) (C := RX5) (T := TX5) (N := 15) hx hb htu cu_in5 hown hK hP 4 cw_4 rfl 0 (by decide) (htu _ C_60) (fun _ h9 => h9) rfl dX5_typedWholes_11 ?_
      refine lv_iload_n hx hb dX5_typedWholes_14 rfl (lv_at hl 4 rfl) ?_
      refine lv_iload hx hb dX5_typedWholes_15 (lv_at hl 0 rfl) ?_
      have hC0 := hC
      refine c_ci (c_runV (As := [.int (nI n9), .int 1]) (rest := [.ref (ga G 4)]) (q0 := 1) (ci := 3) ⟨hx, hb, hml, hown, htu⟩ (tt_partOf l G S_18 N (nI n9) 1 hC tj_23.1 H) (cwV 2 htu hU_X5_144 rfl rfl rfl (by decide +kernel) ⟨show 1 + 1 ≤ 2 * fu + 141 by omega, show 8 + (3 + 11) + 21 ≤ 60 * fu + 6530 by omega⟩) hP hK hD hC hpp cw_1 rfl rfl hl.1 rfl (lv_room (Nat.le_of_ble_eq_true rfl)) dX5_typedWholes_17) hS hD hh hpp (fun r_29 S_30 H locs hw_31 hP hD hS hC hh hs_32 hpq => ?_)
      clear hpp
      have hpp := hpq
      clear hpq
      obtain ⟨-, hu9, hw_31⟩ := hw_31
      have hu9 := hu9.symm
      subst hu9
      obtain rfl : r_29 = nI (tr 11 n9) := hw_31.trans ((hE.aw aw_21t (by decide)).part hn (i := 1) (by rw [hp9]; decide))
      refine lv_iload_n hx hb dX5_typedWholes_20 rfl (lv_at hl 5 rfl) ?_
      refine lv_iload_n hx hb dX5_typedWholes_21 rfl (lv_at hl 6 rfl) ?_
      refine lv_iconst (v := 1) hx hb dX5_typedWholes_22 (by decide) ?_
      refine lv_iadd hx hb dX5_typedWholes_23 ?_
      refine m_top (y := nI (dp + 1)) (nI_add dp 1) ?_
      have hC0 := hC
      refine c_ci (c_runV (As := [.int (nI (tr 11 n9)), .int (nI lv), .int (nI (dp + 1))]) (rest := []) (q0 := 4) (ci := 5) ⟨hx, hb, hml, hown, htu⟩ (ih l G S_18 tx_24T tx_24V tx_24X Y tx_24Z tx_24q N ((dp + 1)) lv tr mk rk top tx_13gs Y2 ((tr 11 n9)) tx_24t hC tx_24u ((by omega)) kk_22 tj_23 ((by omega)) ((by omega)) ((by omega)) ((hE.aw aw_21t (by decide))) ((hO.aw aw_21t (by decide))) hrk ((hE.plt hn (i := 1) (by rw [hp9]; decide))) htp (((aw_21t.1 11 (by decide)).trans h11)) ((Cv.part hcv ((hO n9 hn).2.2.1 1 (by rw [hp9]; decide)) (tx_24yc.2.2.2.2.2.2.2 tx_24z).1 (fun h => by unfold covers at h; omega))) tx_24yc.1 tx_24yc.2.1 tx_24yc.2.2.1 tx_24yc.2.2.2.1 ((by have := tx_24yc.2.2.2.2.1; omega)) tx_24z tx_24sq tx_2413 tx_24yc.2.2.2.2.2.2.1 ((tx_24yc.2.2.2.2.2.2.2 tx_24z).2) H) (cwV 3 htu hU_X5_77 rfl rfl rfl (by decide +kernel) ⟨show (2 * fu + 140) + 1 ≤ 2 * fu + 141 by omega, show 8 + (5 + 11) + (60 * fu + 6500) ≤ 60 * fu + 6530 by omega⟩) hP hK hD hC hpp cw_4 rfl rfl hl.1 rfl (lv_room (Nat.le_of_ble_eq_true rfl)) dX5_typedWholes_24) hS hD hh hpp (fun r_33 S_34 H locs hw_35 hP hD hS hC hh hs_36 hpq => ?_)
      clear hpp
      have hpp := hpq
      clear hpq
      try dsimp only at hw_35
      have aw_37 : AW [6, 7, 8, 9, 16, 14, 10, 11, 12, 13, 17, 18, 23, 24, 25, 26, 35] [8, 9, 10, 12, 13] S_18 S_34 := hw_35.1
      have aw_37t : AW [6, 7, 8, 9, 16, 14, 10, 11, 12, 13, 17, 18, 23, 24, 25, 26, 35] [8, 9, 10, 12, 13] S S_34 := aw_21t.tr (aw_37.mono (by decide) (by decide))
      have kk_38 : kK S_34 15 = 0 := (aw_37.2.1 15 (lt35 (by decide)) (by decide)).2.trans kk_22
      have tj_39 : TJ S_34 N := TJ.aw tj_23 aw_37 (by decide)
      obtain ⟨tx_40A, tx_40E⟩ := hw_35.2
      clear hw_35
      rw [← e3] at tx_40E
      obtain ⟨⟨tx_40t, tx_40gs, tx_40y0⟩, tx_40g, tx_40b⟩ := tx_40E
      have tx_40yc := YC.tr tx_24yc tx_40y0 (show Y ≤ Y by omega) tx_24z
      have nm_41 : nT Y2 ≤ nT Y3.1 := by rw [e3]; exact (x_ty _ _ _ _ _ _).1
      have vl_42 : Y1.2 < nT Y3.1 := Nat.lt_of_lt_of_le vl_26 nm_41
      rcases Nat.eq_zero_or_pos (sto Y3.1) with tx_40z | tx_40z
      · skip
        obtain ⟨tx_40v, tx_40x, tx_4012, tx_4013⟩ := tx_40g tx_40z
        subst tx_40v
        have tx_406 := tx_40yc.1.1.2.2.2.2.2.2.2.1
        have tx_400 : 0 ≤ nI Y3.2 := Int32.not_lt.mp (nI_n0 (by omega))
        obtain ⟨tx_40T, tx_40V, tx_40X, tx_40Z, tx_40q, tx_40u, tx_401, tx_402, tx_403, tx_404⟩ := tx_40A.ok tx_400
        obtain ⟨tx_40tT, tx_40tV, tx_40tB, tx_40tX⟩ := id tx_40u.1.2.1
        have tx_40sq : stp Y3.1 = tx_40q := (nI_eq (by have := tx_40yc.2.2.2.2.1; omega) (by omega)).mp (tx_4012.symm.trans tx_40u.2.1)
        clear tx_40g tx_40b tx_40A
        refine lv_istore (lv' := [(5, .int (nI Y3.2)), (4, .int 1), (6, .int 0), (0, .ref (ga G 4)), (1, .int (nI n9)), (2, .int (nI lv)), (3, .int (nI dp))]) hx hb dX5_typedWholes_27 hl (by decide) rfl (fun ls hl => ?_)
        refine lv_iload hx hb dX5_typedWholes_29 (lv_at hl 0 rfl) ?_
        refine lv_if_ge (tgt := 39) hx hb dX5_typedWholes_31 (by decide) (fun c_43 => ?_) (fun c_43 => absurd (Int32.not_lt.mp (nI_n0 (by omega))) c_43)
        refine lv_aload_n hx hb dX5_typedWholes_39 rfl (lv_at hl 3 rfl) ?_
        refine lv_iload hx hb dX5_typedWholes_40 (lv_at hl 0 rfl) ?_
        refine lv_iconst (v := 0) hx hb dX5_typedWholes_42 (by decide) ?_
        refine lv_iconst (v := 1) hx hb dX5_typedWholes_43 (by decide) ?_
        have ya_44 := yc_askn tx_40yc n9
        have hC0 := hC
        refine c_ci (c_runV (As := [.int (nI Y3.2), .int 0, .int 1]) (rest := []) (q0 := 4) (ci := 5) ⟨hx, hb, hml, hown, htu⟩ ((x_under_all 60) l G S_34 tx_40T tx_40V tx_40X Y tx_40Z tx_40q 1 ((w1 Y3.1 0 5 n9)) Y3.2 0 tx_40t hC tx_40u ((by omega)) kk_38 ((show 1 + 60 = 61 by decide)) ((by omega)) ya_44.1 ya_44.2.1 ya_44.2.2.1 ya_44.2.2.2.1 ((by have := ya_44.2.2.2.2.1; omega)) tx_40z tx_40sq tx_40x ((Nat.lt_of_lt_of_le (by decide) tx_40yc.1.1.2.2.2.2.2.2.2.2.2.1)) H) (cwV 3 htu hU_X5_150 rfl rfl rfl (by decide +kernel) ⟨show (60 + 70) + 1 ≤ 2 * fu + 141 by omega, show 8 + (8 + 11) + (40 * 60 + 3000) ≤ 60 * fu + 6530 by omega⟩) hP hK hD hC hpp cw_4 rfl rfl hl.1 rfl (lv_room (Nat.le_of_ble_eq_true rfl)) dX5_typedWholes_44) hS hD hh hpp (fun r_45 S_46 H locs hw_47 hP hD hS hC hh hs_48 hpq => ?_)
        clear hpp
        have hpp := hpq
        clear hpq
        try dsimp only at hw_47
        have aw_49 : AW [6, 7, 8, 9, 16, 14, 10, 11, 12, 13, 17, 18, 25, 26, 35] [8, 9, 10, 12] S_34 S_46 := hw_47.1
        have aw_49t : AW [6, 7, 8, 9, 16, 14, 10, 11, 12, 13, 17, 18, 23, 24, 25, 26, 35] [8, 9, 10, 12, 13] S S_46 := aw_37t.tr (aw_49.mono (by decide) (by decide))
        have kk_50 : kK S_46 15 = 0 := (aw_49.2.1 15 (lt35 (by decide)) (by decide)).2.trans kk_38
        have tj_51 : TJ S_46 N := TJ.aw tj_39 aw_49 (by decide)
        have tx_52e : Y4 = un 60 (w1 Y3.1 0 5 n9) Y3.2 0 := e4.trans (puts_e tx_40z)
        obtain ⟨tx_52A0, tx_52E⟩ := hw_47.2
        clear hw_47
        have tx_52A := UX.tx tx_52A0
        clear tx_52A0
        rw [← tx_52e] at tx_52E
        obtain ⟨⟨tx_52t, tx_52uc⟩, tx_52M⟩ := tx_52E
        have tx_52yc := yc_under ya_44 tx_52uc aw_49 (by decide) (by rw [tx_52e]; exact k_un _ _ _ _) (by rw [tx_52e]; exact (x_un _ _ _ _).1) (fun _ => tx_40z)
        have nm_53 : nT Y3.1 ≤ nT Y4 := by rw [tx_52e]; exact (x_un 60 (w1 Y3.1 0 5 n9) _ _).1
        have vl_54 : Y1.2 < nT Y4 := Nat.lt_of_lt_of_le vl_42 nm_53
        have vl_55 : Y3.2 < nT Y4 := Nat.lt_of_lt_of_le tx_40x nm_53
        have tx_5213 : S_46.1 13 = -9 := (aw_49.1 13 (by decide)).trans tx_4013
        rcases Nat.eq_zero_or_pos (sto Y4) with tx_52z | tx_52z
        · skip
          obtain ⟨tx_52v, tx_5212⟩ := tx_52M.1 tx_52z
          subst tx_52v
          obtain ⟨tx_52T, tx_52V, tx_52X, tx_52Z, tx_52q, tx_52u, tx_521, tx_522, tx_523, tx_524⟩ := tx_52A.ok (by decide)
          obtain ⟨tx_52tT, tx_52tV, tx_52tB, tx_52tX⟩ := id tx_52u.1.2.1
          have tx_52sq : stp Y4 = tx_52q := (nI_eq (by have := tx_52yc.2.2.2.2.1; omega) (by omega)).mp (tx_5212.symm.trans tx_52u.2.1)
          clear tx_52A tx_52M
          refine lv_istore (lv' := [(6, .int 0), (5, .int (nI Y3.2)), (4, .int 1), (0, .ref (ga G 4)), (1, .int (nI n9)), (2, .int (nI lv)), (3, .int (nI dp))]) hx hb dX5_typedWholes_47 hl (by decide) rfl (fun ls hl => ?_)
          refine lv_iload hx hb dX5_typedWholes_49 (lv_at hl 0 rfl) ?_
          refine lv_if_ge (tgt := 57) hx hb dX5_typedWholes_51 (by decide) (fun c_56 => ?_) (fun c_56 => absurd (by decide) c_56)
          refine lv_iinc (v := 2) (lv' := [(4, .int 2), (6, .int 0), (5, .int (nI Y3.2)), (0, .ref (ga G 4)), (1, .int (nI n9)), (2, .int (nI lv)), (3, .int (nI dp))]) hx hb dX5_typedWholes_57 hl (k := 2) rfl (by decide) (by decide) rfl (fun ls hl => ?_)
          refine lv_goto (tgt := 3) hx hb dX5_typedWholes_60 (by decide) ?_
          refine lv_iload hx hb dX5_typedWholes_3 (lv_at hl 0 rfl) ?_
          refine lv_iconst (v := 1) hx hb dX5_typedWholes_5 (by decide) ?_
          refine lv_icmp_gt (tgt := 63) hx hb dX5_typedWholes_6 (by decide) (fun c_57 => ?_) (fun c_57 => absurd (by decide) c_57)
          refine lv_aload_n hx hb dX5_typedWholes_63 rfl (lv_at hl 3 rfl) ?_
          refine va_get (D := gD G) (ci := 5) (v := .ref (ga G 1)) (C := RX5) (T := TX5) (N := 15) hx hb htu cu_in5 hown hK hP 4 cw_4 rfl 0 (by decide) (htu _ C_60) (fun _ h9 => h9) rfl dX5_typedWholes_64 ?_
          refine lv_iload_n hx hb dX5_typedWholes_67 rfl (lv_at hl 4 rfl) ?_
          have hC0 := hC
          refine c_ci (c_runV (As := [.int (nI n9)]) (rest := []) (q0 := 1) (ci := 3) ⟨hx, hb, hml, hown, htu⟩ (tt_kindOf l G S_46 N (nI n9) hC tj_51.1 H) (cwV 1 htu hU_X5_89 rfl rfl rfl (by decide +kernel) ⟨show 1 + 1 ≤ 2 * fu + 141 by omega, show 8 + (2 + 11) + 21 ≤ 60 * fu + 6530 by omega⟩) hP hK hD hC hpp cw_1 rfl rfl hl.1 rfl (lv_room (Nat.le_of_ble_eq_true rfl)) dX5_typedWholes_68) hS hD hh hpp (fun r_58 S_59 H locs hw_60 hP hD hS hC hh hs_61 hpq => ?_)
          clear hpp
          have hpp := hpq
          clear hpq
          obtain ⟨-, hu9, hw_60⟩ := hw_60
          have hu9 := hu9.symm
          subst hu9
          obtain rfl : r_58 = 10 := (hw_60.trans ((hE.aw aw_49t (by decide)).kind hn)).trans (by rw [hkd]; rfl)
          refine lv_bipush (v := 10) hx hb dX5_typedWholes_71 (by decide) ?_
          refine lv_icmp_ne (tgt := 80) hx hb dX5_typedWholes_73 (by decide) (fun c_62 => absurd (by decide) c_62) (fun c_62 => ?_)
          refine lv_iconst (v := 0) hx hb dX5_typedWholes_76 (by decide) ?_
          refine lv_goto (tgt := 81) hx hb dX5_typedWholes_77 (by decide) ?_
          exact c_iret (v := 0) hx hb hr hK hP hD hS hC hh hpp ⟨aw_49t, ⟨US.tx tx_52u (by omega) _, yf_good (YC.cm tx_52yc (by omega)) tx_52z rfl (Nat.lt_of_lt_of_le (by decide) tx_52yc.1.1.2.2.2.2.2.2.2.2.2.1) (tx_52u.2.1.trans (by rw [tx_52sq])) tx_5213 er⟩⟩ dX5_typedWholes_81 hlocks
        · skip
          have tx_52zz : sto Y4 ≠ 0 := Nat.ne_of_gt tx_52z
          have tx_52v := tx_52M.2 tx_52zz
          have tx_52nn : ¬ 0 ≤ r_45 := Int32.not_le.mpr (by rw [tx_52v]; exact sc_neg tx_52zz)
          clear tx_52M
          refine lv_istore (lv' := [(6, .int r_45), (5, .int (nI Y3.2)), (4, .int 1), (0, .ref (ga G 4)), (1, .int (nI n9)), (2, .int (nI lv)), (3, .int (nI dp))]) hx hb dX5_typedWholes_47 hl (by decide) rfl (fun ls hl => ?_)
          refine lv_iload hx hb dX5_typedWholes_49 (lv_at hl 0 rfl) ?_
          refine lv_if_ge (tgt := 57) hx hb dX5_typedWholes_51 (by decide) (fun c_63 => absurd c_63 tx_52nn) (fun c_63 => ?_)
          refine lv_iload hx hb dX5_typedWholes_54 (lv_at hl 0 rfl) ?_
          exact c_iret (v := r_45) hx hb hr hK hP hD hS hC hh hpp ⟨aw_49t, ⟨(TX.bad tx_52A (by omega) (Int32.not_le.mp tx_52nn)), yf_bad (YC.cm tx_52yc (by omega)) tx_52zz SM.rf tx_52v (pl_wh (by rw [tx_52e]; exact wh_un 60 _ _ _) tx_40z tx_52zz tx_5213) er⟩⟩ dX5_typedWholes_56 hlocks
      · skip
        have tx_40zz : sto Y3.1 ≠ 0 := Nat.ne_of_gt tx_40z
        obtain ⟨tx_40v, tx_40p⟩ := tx_40b tx_40zz
        have tx_40nn : ¬ 0 ≤ r_33 := Int32.not_le.mpr (by rw [tx_40v]; exact sc_neg tx_40zz)
        clear tx_40g tx_40b
        refine lv_istore (lv' := [(5, .int r_33), (4, .int 1), (6, .int 0), (0, .ref (ga G 4)), (1, .int (nI n9)), (2, .int (nI lv)), (3, .int (nI dp))]) hx hb dX5_typedWholes_27 hl (by decide) rfl (fun ls hl => ?_)
        refine lv_iload hx hb dX5_typedWholes_29 (lv_at hl 0 rfl) ?_
        refine lv_if_ge (tgt := 39) hx hb dX5_typedWholes_31 (by decide) (fun c_65 => absurd c_65 tx_40nn) (fun c_65 => ?_)
        refine lv_iload hx hb dX5_typedWholes_34 (lv_at hl 0 rfl) ?_
        refine lv_goto (tgt := 47) hx hb dX5_typedWholes_36 (by decide) ?_
        refine lv_istore (lv' := [(6, .int r_33), (5, .int r_33), (4, .int 1), (0, .ref (ga G 4)), (1, .int (nI n9)), (2, .int (nI lv)), (3, .int (nI dp))]) hx hb dX5_typedWholes_47 hl (by decide) rfl (fun ls hl => ?_)
        refine lv_iload hx hb dX5_typedWholes_49 (lv_at hl 0 rfl) ?_
        refine lv_if_ge (tgt := 57) hx hb dX5_typedWholes_51 (by decide) (fun c_66 => absurd c_66 tx_40nn) (fun c_66 => ?_)
        refine lv_iload hx hb dX5_typedWholes_54 (lv_at hl 0 rfl) ?_
        have sm_67_3 : SM Y3.1 Y4 := by rw [e4]; exact (sm_puts _ _ _ tx_40zz)
        have sm_67_3h : sto Y4 ≠ 0 := sm_67_3.ne tx_40zz
        exact c_iret (v := r_33) hx hb hr hK hP hD hS hC hh hpp ⟨aw_37t, ⟨(TX.bad tx_40A (by omega) (Int32.not_le.mp tx_40nn)), yf_bad (YC.cm tx_40yc (by omega)) tx_40zz sm_67_3 tx_40v (Or.inl tx_40p) er⟩⟩ dX5_typedWholes_56 hlocks
    · skip
      have tx_24zz : sto Y2 ≠ 0 := Nat.ne_of_gt tx_24z
      have tx_24v := tx_24M.2 tx_24zz
      have tx_24nn : ¬ 0 ≤ r_17 := Int32.not_le.mpr (by rw [tx_24v]; exact sc_neg tx_24zz)
      clear tx_24M
      refine lv_istore (lv' := [(6, .int r_17), (5, .int (nI Y1.2)), (4, .int 0), (0, .ref (ga G 4)), (1, .int (nI n9)), (2, .int (nI lv)), (3, .int (nI dp))]) hx hb dX5_typedWholes_47 hl (by decide) rfl (fun ls hl => ?_)
      refine lv_iload hx hb dX5_typedWholes_49 (lv_at hl 0 rfl) ?_
      refine lv_if_ge (tgt := 57) hx hb dX5_typedWholes_51 (by decide) (fun c_68 => absurd c_68 tx_24nn) (fun c_68 => ?_)
      refine lv_iload hx hb dX5_typedWholes_54 (lv_at hl 0 rfl) ?_
      have sm_69_2 : SM Y2 Y3.1 := by rw [e3]; exact (sm_ty tx_24zz)
      have sm_69_2h : sto Y3.1 ≠ 0 := sm_69_2.ne tx_24zz
      have sm_69_3 : SM Y3.1 Y4 := by rw [e4]; exact (sm_puts _ _ _ sm_69_2h)
      have sm_69_3h : sto Y4 ≠ 0 := sm_69_3.ne sm_69_2h
      exact c_iret (v := r_17) hx hb hr hK hP hD hS hC hh hpp ⟨aw_21t, ⟨(TX.bad tx_24A (by omega) (Int32.not_le.mp tx_24nn)), yf_bad (YC.cm tx_24yc (by omega)) tx_24zz (sm_69_2.tr sm_69_3) tx_24v (pl_wh (by rw [tx_24e]; exact wh_un 60 _ _ _) tx_13z tx_24zz tx_2413) er⟩⟩ dX5_typedWholes_56 hlocks
  · skip
    have tx_13zz : sto Y1.1 ≠ 0 := Nat.ne_of_gt tx_13z
    obtain ⟨tx_13v, tx_13p⟩ := tx_13b tx_13zz
    have tx_13nn : ¬ 0 ≤ r_6 := Int32.not_le.mpr (by rw [tx_13v]; exact sc_neg tx_13zz)
    clear tx_13g tx_13b
    refine lv_istore (lv' := [(5, .int r_6), (4, .int 0), (0, .ref (ga G 4)), (1, .int (nI n9)), (2, .int (nI lv)), (3, .int (nI dp))]) hx hb dX5_typedWholes_27 hl (by decide) rfl (fun ls hl => ?_)
    refine lv_iload hx hb dX5_typedWholes_29 (lv_at hl 0 rfl) ?_
    refine lv_if_ge (tgt := 39) hx hb dX5_typedWholes_31 (by decide) (fun c_70 => absurd c_70 tx_13nn) (fun c_70 => ?_)
    refine lv_iload hx hb dX5_typedWholes_34 (lv_at hl 0 rfl) ?_
    refine lv_goto (tgt := 47) hx hb dX5_typedWholes_36 (by decide) ?_
    refine lv_istore (lv' := [(6, .int r_6), (5, .int r_6), (4, .int 0), (0, .ref (ga G 4)), (1, .int (nI n9)), (2, .int (nI lv)), (3, .int (nI dp))]) hx hb dX5_typedWholes_47 hl (by decide) rfl (fun ls hl => ?_)
    refine lv_iload hx hb dX5_typedWholes_49 (lv_at hl 0 rfl) ?_
    refine lv_if_ge (tgt := 57) hx hb dX5_typedWholes_51 (by decide) (fun c_71 => absurd c_71 tx_13nn) (fun c_71 => ?_)
    refine lv_iload hx hb dX5_typedWholes_54 (lv_at hl 0 rfl) ?_
    have sm_72_1 : SM Y1.1 Y2 := by rw [e2]; exact (sm_puts _ _ _ tx_13zz)
    have sm_72_1h : sto Y2 ≠ 0 := sm_72_1.ne tx_13zz
    have sm_72_2 : SM Y2 Y3.1 := by rw [e3]; exact (sm_ty sm_72_1h)
    have sm_72_2h : sto Y3.1 ≠ 0 := sm_72_2.ne sm_72_1h
    have sm_72_3 : SM Y3.1 Y4 := by rw [e4]; exact (sm_puts _ _ _ sm_72_2h)
    have sm_72_3h : sto Y4 ≠ 0 := sm_72_3.ne sm_72_2h
    exact c_iret (v := r_6) hx hb hr hK hP hD hS hC hh hpp ⟨aw_10t, ⟨(TX.bad tx_13A (by omega) (Int32.not_le.mp tx_13nn)), yf_bad (YC.cm tx_13yc (by omega)) tx_13zz ((sm_72_1.tr sm_72_2).tr sm_72_3) tx_13v (Or.inl tx_13p) er⟩⟩ dX5_typedWholes_56 hlocks

set_option maxHeartbeats 4000000 in
set_option maxRecDepth 100000 in
/-- typedWholes -/
theorem x_typedLess (l : Launch) (G : cG) (S : cS) (fu : Nat) (T : Nat) (V : Nat) (X : Nat) (Y : Nat) (Z : Nat) (q : Nat) (N : Nat) (dp : Nat) (lv : Nat) (tr : aM) (mk : Nat → Int32) (rk : Nat → Nat) (top : Nat) (gs : Nat → Prop) (z : aS) (n9 : Nat) (tm : Nat) (hC : CL S) (ih : xTypedAt fu) (hU : US S T V X Y Z q) (hq : q ≤ 1500) (h15 : kK S 15 = 0) (hT : TJ S N) (hdp : dp + (fu + 1) = 61) (hlv : lv ≤ dp) (hY2 : Y + (6 * (fu + 1) + 372) ≤ 900) (hE : TC S tr mk N) (hO : TO S tr N) (hrk : RKs tr rk N) (hn : n9 < N) (htp : top < N) (h11 : S.1 11 = nI top) (hcv : ∀ j, Cv gs tr top j n9) (hz : KT S z) (hkq : KQ S z) (hm0 : KM0 S tm) (h8 : S.1 8 = nI tm) (htm : tm + 1501 + cntT tr ((fu + 1)) n9 ≤ 2 ^ 29 + stp z) (h0 : sto z = 0) (hzq : stp z = q) (h13 : S.1 13 = -9) (hk2 : kK S 23 = 120 ∧ kK S 24 = 120) (hgc : GC gs z S) (hkd : tr 0 n9 = 11) (Hs : Heap) : Met l yX5_typedWholes (wC yX5_typedWholes cX5_typedWholes 7 (some .int)) (cRm S (2 * fu + 141) (60 * fu + 6530)) (cPc G S Hs [.ref (ga G 4), .int (nI n9), .int (nI lv), .int (nI dp)]) (cQi G S Hs (fun v u => AW [6, 7, 8, 9, 16, 14, 10, 11, 12, 13, 17, 18, 23, 24, 25, 26, 35] [8, 9, 10, 12, 13] S u ∧ (TX u T V Y q (6 * (fu + 1) + 372) v ∧ YF S u Y tm (cntT tr (fu + 1) n9) gs n9 z (ty tr top (fu + 1) z n9 lv) v))) (CC - PT S) (12 * (CC - PT S)) (cA G S Hs.size) := by
  refine Met.ofW (cc := cX5_typedWholes) (maxL := 7) (ret := (some .int)) (by decide) rfl ?_
  intro p e s m args below meth c s₁ B hml hv
  obtain ⟨rfl, hsz, hP, hK, hD0, -⟩ := hv
  have hx := B.exec
  have hb := B.bytes
  have hr := B.returns
  have htu : ∀ w ∈ CU, w.before _ s = true := fun w h => atoms_spec (ws := (wC yX5_typedWholes cX5_typedWholes 7 (some .int))) B.pre w (List.mem_cons_of_mem _ h)
  have hown : s.vm.findClass RX5 = some m.cls := findClass_of_methodNamed B.named
  have hlocks := B.notSynchronized
  subst hsz
  have hD : cD (cA G S s.heap.size) G S := cD_self hD0
  have hl := lv_entry ([.ref (ga G 4), .int (nI n9), .int (nI lv), .int (nI dp)]) (n := 7) (Nat.le_of_ble_eq_true rfl)
  rw [lg_entry_eq]
  generalize (lg_sl ([.ref (ga G 4), .int (nI n9), .int (nI lv), .int (nI dp)]) ++ List.replicate (7 - (lg_sl ([.ref (ga G 4), .int (nI n9), .int (nI lv), .int (nI dp)])).length) Slot.unset).toArray = ls at hl ⊢
  have hl : lv_has ls 7 [(0, .ref (ga G 4)), (1, .int (nI n9)), (2, .int (nI lv)), (3, .int (nI dp))] := hl
  obtain ⟨H, hHe⟩ : ∃ H : Heap, H = s.heap := ⟨_, rfl⟩
  rw [← hHe] at hP
  have hS : va_S (cA G S s.heap.size) s.heap H [] := by rw [hHe]; exact va_S.rf
  have hh : HS S S := HS.rf
  have hpp : PT S ≤ PT S := Nat.le_refl _
  have hB9 := hC.1
  refine W.heq hHe ?_
  refine c_ent (S := S) ?_
  obtain ⟨tT, tV, tB, tX⟩ := id hU.1.2.1
  have yc0 : YC S S Y tm 0 gs z z tm gs := ⟨hz, hkq, hm0, h8, ⟨Nat.le_refl _, Nat.le_refl _, by omega⟩, fun _ _ => ⟨rfl, rfl⟩, hk2, fun _ => ⟨fun _ h => h, hgc⟩⟩
  have hp9 : prts (tr 0 n9) (tr 2 n9) = 2 := by rw [hkd]; rfl
  obtain ⟨Y1, Y2, Y3, Y4, e1, e2, e3, e4, er⟩ := ty_11 (top := top) (k := fu) (l := lv) h0 hkd
  have hct := cnt_2 (tr := tr) (k := fu) (n := n9) hp9
  refine lv_iconst (v := 0) hx hb dX5_typedWholes_0 (by decide) ?_
  refine lv_istore (lv' := [(4, .int 0), (0, .ref (ga G 4)), (1, .int (nI n9)), (2, .int (nI lv)), (3, .int (nI dp))]) hx hb dX5_typedWholes_1 hl (by decide) rfl (fun ls hl => ?_)
  refine lv_iload hx hb dX5_typedWholes_3 (lv_at hl 0 rfl) ?_
  refine lv_iconst (v := 1) hx hb dX5_typedWholes_5 (by decide) ?_
  refine lv_icmp_gt (tgt := 63) hx hb dX5_typedWholes_6 (by decide) (fun c_1 => absurd c_1 (by decide)) (fun c_1 => ?_)
  refine lv_aload_n hx hb dX5_typedWholes_9 rfl (lv_at hl 1 rfl) ?_
  refine lv_aload_n hx hb dX5_typedWholes_10 rfl (lv_at hl 1 rfl) ?_
  refine va_get (D := gD G) (ci := 5) (v := .ref (ga G 1)) (C := RX5) (T := TX5) (N := 15) hx hb htu cu_in5 hown hK hP 4 cw_4 rfl 0 (by decide) (htu _ C_60) (fun _ h9 => h9) rfl dX5_typedWholes_11 ?_
  refine lv_iload_n hx hb dX5_typedWholes_14 rfl (lv_at hl 2 rfl) ?_
  refine lv_iload hx hb dX5_typedWholes_15 (lv_at hl 0 rfl) ?_
  have hC0 := hC
  refine c_ci (c_runV (As := [.int (nI n9), .int 0]) (rest := [.ref (ga G 4)]) (q0 := 1) (ci := 3) ⟨hx, hb, hml, hown, htu⟩ (tt_partOf l G S N (nI n9) 0 hC hT.1 H) (cwV 2 htu hU_X5_144 rfl rfl rfl (by decide +kernel) ⟨show 1 + 1 ≤ 2 * fu + 141 by omega, show 8 + (3 + 11) + 21 ≤ 60 * fu + 6530 by omega⟩) hP hK hD hC hpp cw_1 rfl rfl hl.1 rfl (lv_room (Nat.le_of_ble_eq_true rfl)) dX5_typedWholes_17) hS hD hh hpp (fun r_2 S_3 H locs hw_4 hP hD hS hC hh hs_5 hpq => ?_)
  clear hpp
  have hpp := hpq
  clear hpq
  obtain ⟨-, hu9, hw_4⟩ := hw_4
  have hu9 := hu9.symm
  subst hu9
  obtain rfl : r_2 = nI (tr 10 n9) := hw_4.trans ((hE.aw (AW.rf (rs := []) (is := [])) (by decide)).part hn (i := 0) (by rw [hp9]; decide))
  refine lv_iload_n hx hb dX5_typedWholes_20 rfl (lv_at hl 3 rfl) ?_
  refine lv_iload_n hx hb dX5_typedWholes_21 rfl (lv_at hl 4 rfl) ?_
  refine lv_iconst (v := 1) hx hb dX5_typedWholes_22 (by decide) ?_
  refine lv_iadd hx hb dX5_typedWholes_23 ?_
  refine m_top (y := nI (dp + 1)) (nI_add dp 1) ?_
  have hC0 := hC
  refine c_ci (c_runV (As := [.int (nI (tr 10 n9)), .int (nI lv), .int (nI (dp + 1))]) (rest := []) (q0 := 4) (ci := 5) ⟨hx, hb, hml, hown, htu⟩ (ih l G S T V X Y Z q N ((dp + 1)) lv tr mk rk top gs z ((tr 10 n9)) tm hC hU ((by omega)) h15 hT ((by omega)) ((by omega)) ((by omega)) ((hE.aw (AW.rf (rs := []) (is := [])) (by decide))) ((hO.aw (AW.rf (rs := []) (is := [])) (by decide))) hrk ((hE.plt hn (i := 0) (by rw [hp9]; decide))) htp ((((AW.rf (rs := []) (is := [])).1 11 (by decide)).trans h11)) ((Cv.part hcv ((hO n9 hn).2.2.1 0 (by rw [hp9]; decide)) (yc0.2.2.2.2.2.2.2 h0).1 (fun h => by unfold covers at h; omega))) yc0.1 yc0.2.1 yc0.2.2.1 yc0.2.2.2.1 ((by have := yc0.2.2.2.2.1; omega)) h0 hzq h13 yc0.2.2.2.2.2.2.1 ((yc0.2.2.2.2.2.2.2 h0).2) H) (cwV 3 htu hU_X5_77 rfl rfl rfl (by decide +kernel) ⟨show (2 * fu + 140) + 1 ≤ 2 * fu + 141 by omega, show 8 + (5 + 11) + (60 * fu + 6500) ≤ 60 * fu + 6530 by omega⟩) hP hK hD hC hpp cw_4 rfl rfl hl.1 rfl (lv_room (Nat.le_of_ble_eq_true rfl)) dX5_typedWholes_24) hS hD hh hpp (fun r_6 S_7 H locs hw_8 hP hD hS hC hh hs_9 hpq => ?_)
  clear hpp
  have hpp := hpq
  clear hpq
  try dsimp only at hw_8
  have aw_10 : AW [6, 7, 8, 9, 16, 14, 10, 11, 12, 13, 17, 18, 23, 24, 25, 26, 35] [8, 9, 10, 12, 13] S S_7 := hw_8.1
  have aw_10t : AW [6, 7, 8, 9, 16, 14, 10, 11, 12, 13, 17, 18, 23, 24, 25, 26, 35] [8, 9, 10, 12, 13] S S_7 := AW.rf.tr (aw_10.mono (by decide) (by decide))
  have kk_11 : kK S_7 15 = 0 := (aw_10.2.1 15 (lt35 (by decide)) (by decide)).2.trans h15
  have tj_12 : TJ S_7 N := TJ.aw hT aw_10 (by decide)
  obtain ⟨tx_13A, tx_13E⟩ := hw_8.2
  clear hw_8
  rw [← e1] at tx_13E
  obtain ⟨⟨tx_13t, tx_13gs, tx_13y0⟩, tx_13g, tx_13b⟩ := tx_13E
  have tx_13yc := YC.tr yc0 tx_13y0 (show Y ≤ Y by omega) h0
  have nm_14 : nT z ≤ nT Y1.1 := by rw [e1]; exact (x_ty _ _ _ _ _ _).1
  rcases Nat.eq_zero_or_pos (sto Y1.1) with tx_13z | tx_13z
  · skip
    obtain ⟨tx_13v, tx_13x, tx_1312, tx_1313⟩ := tx_13g tx_13z
    subst tx_13v
    have tx_136 := tx_13yc.1.1.2.2.2.2.2.2.2.1
    have tx_130 : 0 ≤ nI Y1.2 := Int32.not_lt.mp (nI_n0 (by omega))
    obtain ⟨tx_13T, tx_13V, tx_13X, tx_13Z, tx_13q, tx_13u, tx_131, tx_132, tx_133, tx_134⟩ := tx_13A.ok tx_130
    obtain ⟨tx_13tT, tx_13tV, tx_13tB, tx_13tX⟩ := id tx_13u.1.2.1
    have tx_13sq : stp Y1.1 = tx_13q := (nI_eq (by have := tx_13yc.2.2.2.2.1; omega) (by omega)).mp (tx_1312.symm.trans tx_13u.2.1)
    clear tx_13g tx_13b tx_13A
    refine lv_istore (lv' := [(5, .int (nI Y1.2)), (4, .int 0), (0, .ref (ga G 4)), (1, .int (nI n9)), (2, .int (nI lv)), (3, .int (nI dp))]) hx hb dX5_typedWholes_27 hl (by decide) rfl (fun ls hl => ?_)
    refine lv_iload hx hb dX5_typedWholes_29 (lv_at hl 0 rfl) ?_
    refine lv_if_ge (tgt := 39) hx hb dX5_typedWholes_31 (by decide) (fun c_15 => ?_) (fun c_15 => absurd (Int32.not_lt.mp (nI_n0 (by omega))) c_15)
    refine lv_aload_n hx hb dX5_typedWholes_39 rfl (lv_at hl 2 rfl) ?_
    refine lv_iload hx hb dX5_typedWholes_40 (lv_at hl 0 rfl) ?_
    refine lv_iconst (v := 0) hx hb dX5_typedWholes_42 (by decide) ?_
    refine lv_iconst (v := 1) hx hb dX5_typedWholes_43 (by decide) ?_
    have ya_16 := yc_askn tx_13yc n9
    have hC0 := hC
    refine c_ci (c_runV (As := [.int (nI Y1.2), .int 0, .int 1]) (rest := []) (q0 := 4) (ci := 5) ⟨hx, hb, hml, hown, htu⟩ ((x_under_all 60) l G S_7 tx_13T tx_13V tx_13X Y tx_13Z tx_13q 1 ((w1 Y1.1 0 5 n9)) Y1.2 0 tx_13t hC tx_13u ((by omega)) kk_11 ((show 1 + 60 = 61 by decide)) ((by omega)) ya_16.1 ya_16.2.1 ya_16.2.2.1 ya_16.2.2.2.1 ((by have := ya_16.2.2.2.2.1; omega)) tx_13z tx_13sq tx_13x ((Nat.lt_of_lt_of_le (by decide) tx_13yc.1.1.2.2.2.2.2.2.2.2.2.1)) H) (cwV 3 htu hU_X5_150 rfl rfl rfl (by decide +kernel) ⟨show (60 + 70) + 1 ≤ 2 * fu + 141 by omega, show 8 + (8 + 11) + (40 * 60 + 3000) ≤ 60 * fu + 6530 by omega⟩) hP hK hD hC hpp cw_4 rfl rfl hl.1 rfl (lv_room (Nat.le_of_ble_eq_true rfl)) dX5_typedWholes_44) hS hD hh hpp (fun r_17 S_18 H locs hw_19 hP hD hS hC hh hs_20 hpq => ?_)
    clear hpp
    have hpp := hpq
    clear hpq
    try dsimp only at hw_19
    have aw_21 : AW [6, 7, 8, 9, 16, 14, 10, 11, 12, 13, 17, 18, 25, 26, 35] [8, 9, 10, 12] S_7 S_18 := hw_19.1
    have aw_21t : AW [6, 7, 8, 9, 16, 14, 10, 11, 12, 13, 17, 18, 23, 24, 25, 26, 35] [8, 9, 10, 12, 13] S S_18 := aw_10t.tr (aw_21.mono (by decide) (by decide))
    have kk_22 : kK S_18 15 = 0 := (aw_21.2.1 15 (lt35 (by decide)) (by decide)).2.trans kk_11
    have tj_23 : TJ S_18 N := TJ.aw tj_12 aw_21 (by decide)
    have tx_24e : Y2 = un 60 (w1 Y1.1 0 5 n9) Y1.2 0 := e2.trans (puts_e tx_13z)
    obtain ⟨tx_24A0, tx_24E⟩ := hw_19.2
    clear hw_19
    have tx_24A := UX.tx tx_24A0
    clear tx_24A0
    rw [← tx_24e] at tx_24E
    obtain ⟨⟨tx_24t, tx_24uc⟩, tx_24M⟩ := tx_24E
    have tx_24yc := yc_under ya_16 tx_24uc aw_21 (by decide) (by rw [tx_24e]; exact k_un _ _ _ _) (by rw [tx_24e]; exact (x_un _ _ _ _).1) (fun _ => tx_13z)
    have nm_25 : nT Y1.1 ≤ nT Y2 := by rw [tx_24e]; exact (x_un 60 (w1 Y1.1 0 5 n9) _ _).1
    have vl_26 : Y1.2 < nT Y2 := Nat.lt_of_lt_of_le tx_13x nm_25
    have tx_2413 : S_18.1 13 = -9 := (aw_21.1 13 (by decide)).trans tx_1313
    rcases Nat.eq_zero_or_pos (sto Y2) with tx_24z | tx_24z
    · skip
      obtain ⟨tx_24v, tx_2412⟩ := tx_24M.1 tx_24z
      subst tx_24v
      obtain ⟨tx_24T, tx_24V, tx_24X, tx_24Z, tx_24q, tx_24u, tx_241, tx_242, tx_243, tx_244⟩ := tx_24A.ok (by decide)
      obtain ⟨tx_24tT, tx_24tV, tx_24tB, tx_24tX⟩ := id tx_24u.1.2.1
      have tx_24sq : stp Y2 = tx_24q := (nI_eq (by have := tx_24yc.2.2.2.2.1; omega) (by omega)).mp (tx_2412.symm.trans tx_24u.2.1)
      clear tx_24A tx_24M
      refine lv_istore (lv' := [(6, .int 0), (5, .int (nI Y1.2)), (4, .int 0), (0, .ref (ga G 4)), (1, .int (nI n9)), (2, .int (nI lv)), (3, .int (nI dp))]) hx hb dX5_typedWholes_47 hl (by decide) rfl (fun ls hl => ?_)
      refine lv_iload hx hb dX5_typedWholes_49 (lv_at hl 0 rfl) ?_
      refine lv_if_ge (tgt := 57) hx hb dX5_typedWholes_51 (by decide) (fun c_27 => ?_) (fun c_27 => absurd (by decide) c_27)
      refine lv_iinc (v := 1) (lv' := [(4, .int 1), (6, .int 0), (5, .int (nI Y1.2)), (0, .ref (ga G 4)), (1, .int (nI n9)), (2, .int (nI lv)), (3, .int (nI dp))]) hx hb dX5_typedWholes_57 hl (k := 2) rfl (by decide) (by decide) rfl (fun ls hl => ?_)
      refine lv_goto (tgt := 3) hx hb dX5_typedWholes_60 (by decide) ?_
      refine lv_iload hx hb dX5_typedWholes_3 (lv_at hl 0 rfl) ?_
      refine lv_iconst (v := 1) hx hb dX5_typedWholes_5 (by decide) ?_
      refine lv_icmp_gt (tgt := 63) hx hb dX5_typedWholes_6 (by decide) (fun c_28 => absurd c_28 (by decide)) (fun c_28 => ?_)
      refine lv_aload_n hx hb dX5_typedWholes_9 rfl (lv_at hl 3 rfl) ?_
      refine lv_aload_n hx hb dX5_typedWholes_10 rfl (lv_at hl 3 rfl) ?_
      refine va_get (D := gD G) (ci := 5) (v := .ref (ga G 1)) (C := RX5) (T := TX5) (N := 15) hx hb htu cu_in5 hown hK hP 4 cw_4 rfl 0 (by decide) (htu _ C_60) (fun _ h9 => h9) rfl dX5_typedWholes_11 ?_
      refine lv_iload_n hx hb dX5_typedWholes_14 rfl (lv_at hl 4 rfl) ?_
      refine lv_iload hx hb dX5_typedWholes_15 (lv_at hl 0 rfl) ?_
      have hC0 := hC
      refine c_ci (c_runV (As := [.int (nI n9), .int 1]) (rest := [.ref (ga G 4)]) (q0 := 1) (ci := 3) ⟨hx, hb, hml, hown, htu⟩ (tt_partOf l G S_18 N (nI n9) 1 hC tj_23.1 H) (cwV 2 htu hU_X5_144 rfl rfl rfl (by decide +kernel) ⟨show 1 + 1 ≤ 2 * fu + 141 by omega, show 8 + (3 + 11) + 21 ≤ 60 * fu + 6530 by omega⟩) hP hK hD hC hpp cw_1 rfl rfl hl.1 rfl (lv_room (Nat.le_of_ble_eq_true rfl)) dX5_typedWholes_17) hS hD hh hpp (fun r_29 S_30 H locs hw_31 hP hD hS hC hh hs_32 hpq => ?_)
      clear hpp
      have hpp := hpq
      clear hpq
      obtain ⟨-, hu9, hw_31⟩ := hw_31
      have hu9 := hu9.symm
      subst hu9
      obtain rfl : r_29 = nI (tr 11 n9) := hw_31.trans ((hE.aw aw_21t (by decide)).part hn (i := 1) (by rw [hp9]; decide))
      refine lv_iload_n hx hb dX5_typedWholes_20 rfl (lv_at hl 5 rfl) ?_
      refine lv_iload_n hx hb dX5_typedWholes_21 rfl (lv_at hl 6 rfl) ?_
      refine lv_iconst (v := 1) hx hb dX5_typedWholes_22 (by decide) ?_
      refine lv_iadd hx hb dX5_typedWholes_23 ?_
      refine m_top (y := nI (dp + 1)) (nI_add dp 1) ?_
      have hC0 := hC
      refine c_ci (c_runV (As := [.int (nI (tr 11 n9)), .int (nI lv), .int (nI (dp + 1))]) (rest := []) (q0 := 4) (ci := 5) ⟨hx, hb, hml, hown, htu⟩ (ih l G S_18 tx_24T tx_24V tx_24X Y tx_24Z tx_24q N ((dp + 1)) lv tr mk rk top tx_13gs Y2 ((tr 11 n9)) tx_24t hC tx_24u ((by omega)) kk_22 tj_23 ((by omega)) ((by omega)) ((by omega)) ((hE.aw aw_21t (by decide))) ((hO.aw aw_21t (by decide))) hrk ((hE.plt hn (i := 1) (by rw [hp9]; decide))) htp (((aw_21t.1 11 (by decide)).trans h11)) ((Cv.part hcv ((hO n9 hn).2.2.1 1 (by rw [hp9]; decide)) (tx_24yc.2.2.2.2.2.2.2 tx_24z).1 (fun h => by unfold covers at h; omega))) tx_24yc.1 tx_24yc.2.1 tx_24yc.2.2.1 tx_24yc.2.2.2.1 ((by have := tx_24yc.2.2.2.2.1; omega)) tx_24z tx_24sq tx_2413 tx_24yc.2.2.2.2.2.2.1 ((tx_24yc.2.2.2.2.2.2.2 tx_24z).2) H) (cwV 3 htu hU_X5_77 rfl rfl rfl (by decide +kernel) ⟨show (2 * fu + 140) + 1 ≤ 2 * fu + 141 by omega, show 8 + (5 + 11) + (60 * fu + 6500) ≤ 60 * fu + 6530 by omega⟩) hP hK hD hC hpp cw_4 rfl rfl hl.1 rfl (lv_room (Nat.le_of_ble_eq_true rfl)) dX5_typedWholes_24) hS hD hh hpp (fun r_33 S_34 H locs hw_35 hP hD hS hC hh hs_36 hpq => ?_)
      clear hpp
      have hpp := hpq
      clear hpq
      try dsimp only at hw_35
      have aw_37 : AW [6, 7, 8, 9, 16, 14, 10, 11, 12, 13, 17, 18, 23, 24, 25, 26, 35] [8, 9, 10, 12, 13] S_18 S_34 := hw_35.1
      have aw_37t : AW [6, 7, 8, 9, 16, 14, 10, 11, 12, 13, 17, 18, 23, 24, 25, 26, 35] [8, 9, 10, 12, 13] S S_34 := aw_21t.tr (aw_37.mono (by decide) (by decide))
      have kk_38 : kK S_34 15 = 0 := (aw_37.2.1 15 (lt35 (by decide)) (by decide)).2.trans kk_22
      have tj_39 : TJ S_34 N := TJ.aw tj_23 aw_37 (by decide)
      obtain ⟨tx_40A, tx_40E⟩ := hw_35.2
      clear hw_35
      rw [← e3] at tx_40E
      obtain ⟨⟨tx_40t, tx_40gs, tx_40y0⟩, tx_40g, tx_40b⟩ := tx_40E
      have tx_40yc := YC.tr tx_24yc tx_40y0 (show Y ≤ Y by omega) tx_24z
      have nm_41 : nT Y2 ≤ nT Y3.1 := by rw [e3]; exact (x_ty _ _ _ _ _ _).1
      have vl_42 : Y1.2 < nT Y3.1 := Nat.lt_of_lt_of_le vl_26 nm_41
      rcases Nat.eq_zero_or_pos (sto Y3.1) with tx_40z | tx_40z
      · skip
        obtain ⟨tx_40v, tx_40x, tx_4012, tx_4013⟩ := tx_40g tx_40z
        subst tx_40v
        have tx_406 := tx_40yc.1.1.2.2.2.2.2.2.2.1
        have tx_400 : 0 ≤ nI Y3.2 := Int32.not_lt.mp (nI_n0 (by omega))
        obtain ⟨tx_40T, tx_40V, tx_40X, tx_40Z, tx_40q, tx_40u, tx_401, tx_402, tx_403, tx_404⟩ := tx_40A.ok tx_400
        obtain ⟨tx_40tT, tx_40tV, tx_40tB, tx_40tX⟩ := id tx_40u.1.2.1
        have tx_40sq : stp Y3.1 = tx_40q := (nI_eq (by have := tx_40yc.2.2.2.2.1; omega) (by omega)).mp (tx_4012.symm.trans tx_40u.2.1)
        clear tx_40g tx_40b tx_40A
        refine lv_istore (lv' := [(5, .int (nI Y3.2)), (4, .int 1), (6, .int 0), (0, .ref (ga G 4)), (1, .int (nI n9)), (2, .int (nI lv)), (3, .int (nI dp))]) hx hb dX5_typedWholes_27 hl (by decide) rfl (fun ls hl => ?_)
        refine lv_iload hx hb dX5_typedWholes_29 (lv_at hl 0 rfl) ?_
        refine lv_if_ge (tgt := 39) hx hb dX5_typedWholes_31 (by decide) (fun c_43 => ?_) (fun c_43 => absurd (Int32.not_lt.mp (nI_n0 (by omega))) c_43)
        refine lv_aload_n hx hb dX5_typedWholes_39 rfl (lv_at hl 3 rfl) ?_
        refine lv_iload hx hb dX5_typedWholes_40 (lv_at hl 0 rfl) ?_
        refine lv_iconst (v := 0) hx hb dX5_typedWholes_42 (by decide) ?_
        refine lv_iconst (v := 1) hx hb dX5_typedWholes_43 (by decide) ?_
        have ya_44 := yc_askn tx_40yc n9
        have hC0 := hC
        refine c_ci (c_runV (As := [.int (nI Y3.2), .int 0, .int 1]) (rest := []) (q0 := 4) (ci := 5) ⟨hx, hb, hml, hown, htu⟩ ((x_under_all 60) l G S_34 tx_40T tx_40V tx_40X Y tx_40Z tx_40q 1 ((w1 Y3.1 0 5 n9)) Y3.2 0 tx_40t hC tx_40u ((by omega)) kk_38 ((show 1 + 60 = 61 by decide)) ((by omega)) ya_44.1 ya_44.2.1 ya_44.2.2.1 ya_44.2.2.2.1 ((by have := ya_44.2.2.2.2.1; omega)) tx_40z tx_40sq tx_40x ((Nat.lt_of_lt_of_le (by decide) tx_40yc.1.1.2.2.2.2.2.2.2.2.2.1)) H) (cwV 3 htu hU_X5_150 rfl rfl rfl (by decide +kernel) ⟨show (60 + 70) + 1 ≤ 2 * fu + 141 by omega, show 8 + (8 + 11) + (40 * 60 + 3000) ≤ 60 * fu + 6530 by omega⟩) hP hK hD hC hpp cw_4 rfl rfl hl.1 rfl (lv_room (Nat.le_of_ble_eq_true rfl)) dX5_typedWholes_44) hS hD hh hpp (fun r_45 S_46 H locs hw_47 hP hD hS hC hh hs_48 hpq => ?_)
        clear hpp
        have hpp := hpq
        clear hpq
        try dsimp only at hw_47
        have aw_49 : AW [6, 7, 8, 9, 16, 14, 10, 11, 12, 13, 17, 18, 25, 26, 35] [8, 9, 10, 12] S_34 S_46 := hw_47.1
        have aw_49t : AW [6, 7, 8, 9, 16, 14, 10, 11, 12, 13, 17, 18, 23, 24, 25, 26, 35] [8, 9, 10, 12, 13] S S_46 := aw_37t.tr (aw_49.mono (by decide) (by decide))
        have kk_50 : kK S_46 15 = 0 := (aw_49.2.1 15 (lt35 (by decide)) (by decide)).2.trans kk_38
        have tj_51 : TJ S_46 N := TJ.aw tj_39 aw_49 (by decide)
        have tx_52e : Y4 = un 60 (w1 Y3.1 0 5 n9) Y3.2 0 := e4.trans (puts_e tx_40z)
        obtain ⟨tx_52A0, tx_52E⟩ := hw_47.2
        clear hw_47
        have tx_52A := UX.tx tx_52A0
        clear tx_52A0
        rw [← tx_52e] at tx_52E
        obtain ⟨⟨tx_52t, tx_52uc⟩, tx_52M⟩ := tx_52E
        have tx_52yc := yc_under ya_44 tx_52uc aw_49 (by decide) (by rw [tx_52e]; exact k_un _ _ _ _) (by rw [tx_52e]; exact (x_un _ _ _ _).1) (fun _ => tx_40z)
        have nm_53 : nT Y3.1 ≤ nT Y4 := by rw [tx_52e]; exact (x_un 60 (w1 Y3.1 0 5 n9) _ _).1
        have vl_54 : Y1.2 < nT Y4 := Nat.lt_of_lt_of_le vl_42 nm_53
        have vl_55 : Y3.2 < nT Y4 := Nat.lt_of_lt_of_le tx_40x nm_53
        have tx_5213 : S_46.1 13 = -9 := (aw_49.1 13 (by decide)).trans tx_4013
        rcases Nat.eq_zero_or_pos (sto Y4) with tx_52z | tx_52z
        · skip
          obtain ⟨tx_52v, tx_5212⟩ := tx_52M.1 tx_52z
          subst tx_52v
          obtain ⟨tx_52T, tx_52V, tx_52X, tx_52Z, tx_52q, tx_52u, tx_521, tx_522, tx_523, tx_524⟩ := tx_52A.ok (by decide)
          obtain ⟨tx_52tT, tx_52tV, tx_52tB, tx_52tX⟩ := id tx_52u.1.2.1
          have tx_52sq : stp Y4 = tx_52q := (nI_eq (by have := tx_52yc.2.2.2.2.1; omega) (by omega)).mp (tx_5212.symm.trans tx_52u.2.1)
          clear tx_52A tx_52M
          refine lv_istore (lv' := [(6, .int 0), (5, .int (nI Y3.2)), (4, .int 1), (0, .ref (ga G 4)), (1, .int (nI n9)), (2, .int (nI lv)), (3, .int (nI dp))]) hx hb dX5_typedWholes_47 hl (by decide) rfl (fun ls hl => ?_)
          refine lv_iload hx hb dX5_typedWholes_49 (lv_at hl 0 rfl) ?_
          refine lv_if_ge (tgt := 57) hx hb dX5_typedWholes_51 (by decide) (fun c_56 => ?_) (fun c_56 => absurd (by decide) c_56)
          refine lv_iinc (v := 2) (lv' := [(4, .int 2), (6, .int 0), (5, .int (nI Y3.2)), (0, .ref (ga G 4)), (1, .int (nI n9)), (2, .int (nI lv)), (3, .int (nI dp))]) hx hb dX5_typedWholes_57 hl (k := 2) rfl (by decide) (by decide) rfl (fun ls hl => ?_)
          refine lv_goto (tgt := 3) hx hb dX5_typedWholes_60 (by decide) ?_
          refine lv_iload hx hb dX5_typedWholes_3 (lv_at hl 0 rfl) ?_
          refine lv_iconst (v := 1) hx hb dX5_typedWholes_5 (by decide) ?_
          refine lv_icmp_gt (tgt := 63) hx hb dX5_typedWholes_6 (by decide) (fun c_57 => ?_) (fun c_57 => absurd (by decide) c_57)
          refine lv_aload_n hx hb dX5_typedWholes_63 rfl (lv_at hl 3 rfl) ?_
          refine va_get (D := gD G) (ci := 5) (v := .ref (ga G 1)) (C := RX5) (T := TX5) (N := 15) hx hb htu cu_in5 hown hK hP 4 cw_4 rfl 0 (by decide) (htu _ C_60) (fun _ h9 => h9) rfl dX5_typedWholes_64 ?_
          refine lv_iload_n hx hb dX5_typedWholes_67 rfl (lv_at hl 4 rfl) ?_
          have hC0 := hC
          refine c_ci (c_runV (As := [.int (nI n9)]) (rest := []) (q0 := 1) (ci := 3) ⟨hx, hb, hml, hown, htu⟩ (tt_kindOf l G S_46 N (nI n9) hC tj_51.1 H) (cwV 1 htu hU_X5_89 rfl rfl rfl (by decide +kernel) ⟨show 1 + 1 ≤ 2 * fu + 141 by omega, show 8 + (2 + 11) + 21 ≤ 60 * fu + 6530 by omega⟩) hP hK hD hC hpp cw_1 rfl rfl hl.1 rfl (lv_room (Nat.le_of_ble_eq_true rfl)) dX5_typedWholes_68) hS hD hh hpp (fun r_58 S_59 H locs hw_60 hP hD hS hC hh hs_61 hpq => ?_)
          clear hpp
          have hpp := hpq
          clear hpq
          obtain ⟨-, hu9, hw_60⟩ := hw_60
          have hu9 := hu9.symm
          subst hu9
          obtain rfl : r_58 = 11 := (hw_60.trans ((hE.aw aw_49t (by decide)).kind hn)).trans (by rw [hkd]; rfl)
          refine lv_bipush (v := 10) hx hb dX5_typedWholes_71 (by decide) ?_
          refine lv_icmp_ne (tgt := 80) hx hb dX5_typedWholes_73 (by decide) (fun c_62 => ?_) (fun c_62 => absurd c_62 (by decide))
          refine lv_iconst (v := 1) hx hb dX5_typedWholes_80 (by decide) ?_
          exact c_iret (v := 1) hx hb hr hK hP hD hS hC hh hpp ⟨aw_49t, ⟨US.tx tx_52u (by omega) _, yf_good (YC.cm tx_52yc (by omega)) tx_52z rfl (Nat.lt_of_lt_of_le (by decide) tx_52yc.1.1.2.2.2.2.2.2.2.2.2.1) (tx_52u.2.1.trans (by rw [tx_52sq])) tx_5213 er⟩⟩ dX5_typedWholes_81 hlocks
        · skip
          have tx_52zz : sto Y4 ≠ 0 := Nat.ne_of_gt tx_52z
          have tx_52v := tx_52M.2 tx_52zz
          have tx_52nn : ¬ 0 ≤ r_45 := Int32.not_le.mpr (by rw [tx_52v]; exact sc_neg tx_52zz)
          clear tx_52M
          refine lv_istore (lv' := [(6, .int r_45), (5, .int (nI Y3.2)), (4, .int 1), (0, .ref (ga G 4)), (1, .int (nI n9)), (2, .int (nI lv)), (3, .int (nI dp))]) hx hb dX5_typedWholes_47 hl (by decide) rfl (fun ls hl => ?_)
          refine lv_iload hx hb dX5_typedWholes_49 (lv_at hl 0 rfl) ?_
          refine lv_if_ge (tgt := 57) hx hb dX5_typedWholes_51 (by decide) (fun c_63 => absurd c_63 tx_52nn) (fun c_63 => ?_)
          refine lv_iload hx hb dX5_typedWholes_54 (lv_at hl 0 rfl) ?_
          exact c_iret (v := r_45) hx hb hr hK hP hD hS hC hh hpp ⟨aw_49t, ⟨(TX.bad tx_52A (by omega) (Int32.not_le.mp tx_52nn)), yf_bad (YC.cm tx_52yc (by omega)) tx_52zz SM.rf tx_52v (pl_wh (by rw [tx_52e]; exact wh_un 60 _ _ _) tx_40z tx_52zz tx_5213) er⟩⟩ dX5_typedWholes_56 hlocks
      · skip
        have tx_40zz : sto Y3.1 ≠ 0 := Nat.ne_of_gt tx_40z
        obtain ⟨tx_40v, tx_40p⟩ := tx_40b tx_40zz
        have tx_40nn : ¬ 0 ≤ r_33 := Int32.not_le.mpr (by rw [tx_40v]; exact sc_neg tx_40zz)
        clear tx_40g tx_40b
        refine lv_istore (lv' := [(5, .int r_33), (4, .int 1), (6, .int 0), (0, .ref (ga G 4)), (1, .int (nI n9)), (2, .int (nI lv)), (3, .int (nI dp))]) hx hb dX5_typedWholes_27 hl (by decide) rfl (fun ls hl => ?_)
        refine lv_iload hx hb dX5_typedWholes_29 (lv_at hl 0 rfl) ?_
        refine lv_if_ge (tgt := 39) hx hb dX5_typedWholes_31 (by decide) (fun c_65 => absurd c_65 tx_40nn) (fun c_65 => ?_)
        refine lv_iload hx hb dX5_typedWholes_34 (lv_at hl 0 rfl) ?_
        refine lv_goto (tgt := 47) hx hb dX5_typedWholes_36 (by decide) ?_
        refine lv_istore (lv' := [(6, .int r_33), (5, .int r_33), (4, .int 1), (0, .ref (ga G 4)), (1, .int (nI n9)), (2, .int (nI lv)), (3, .int (nI dp))]) hx hb dX5_typedWholes_47 hl (by decide) rfl (fun ls hl => ?_)
        refine lv_iload hx hb dX5_typedWholes_49 (lv_at hl 0 rfl) ?_
        refine lv_if_ge (tgt := 57) hx hb dX5_typedWholes_51 (by decide) (fun c_66 => absurd c_66 tx_40nn) (fun c_66 => ?_)
        refine lv_iload hx hb dX5_typedWholes_54 (lv_at hl 0 rfl) ?_
        have sm_67_3 : SM Y3.1 Y4 := by rw [e4]; exact (sm_puts _ _ _ tx_40zz)
        have sm_67_3h : sto Y4 ≠ 0 := sm_67_3.ne tx_40zz
        exact c_iret (v := r_33) hx hb hr hK hP hD hS hC hh hpp ⟨aw_37t, ⟨(TX.bad tx_40A (by omega) (Int32.not_le.mp tx_40nn)), yf_bad (YC.cm tx_40yc (by omega)) tx_40zz sm_67_3 tx_40v (Or.inl tx_40p) er⟩⟩ dX5_typedWholes_56 hlocks
    · skip
      have tx_24zz : sto Y2 ≠ 0 := Nat.ne_of_gt tx_24z
      have tx_24v := tx_24M.2 tx_24zz
      have tx_24nn : ¬ 0 ≤ r_17 := Int32.not_le.mpr (by rw [tx_24v]; exact sc_neg tx_24zz)
      clear tx_24M
      refine lv_istore (lv' := [(6, .int r_17), (5, .int (nI Y1.2)), (4, .int 0), (0, .ref (ga G 4)), (1, .int (nI n9)), (2, .int (nI lv)), (3, .int (nI dp))]) hx hb dX5_typedWholes_47 hl (by decide) rfl (fun ls hl => ?_)
      refine lv_iload hx hb dX5_typedWholes_49 (lv_at hl 0 rfl) ?_
      refine lv_if_ge (tgt := 57) hx hb dX5_typedWholes_51 (by decide) (fun c_68 => absurd c_68 tx_24nn) (fun c_68 => ?_)
      refine lv_iload hx hb dX5_typedWholes_54 (lv_at hl 0 rfl) ?_
      have sm_69_2 : SM Y2 Y3.1 := by rw [e3]; exact (sm_ty tx_24zz)
      have sm_69_2h : sto Y3.1 ≠ 0 := sm_69_2.ne tx_24zz
      have sm_69_3 : SM Y3.1 Y4 := by rw [e4]; exact (sm_puts _ _ _ sm_69_2h)
      have sm_69_3h : sto Y4 ≠ 0 := sm_69_3.ne sm_69_2h
      exact c_iret (v := r_17) hx hb hr hK hP hD hS hC hh hpp ⟨aw_21t, ⟨(TX.bad tx_24A (by omega) (Int32.not_le.mp tx_24nn)), yf_bad (YC.cm tx_24yc (by omega)) tx_24zz (sm_69_2.tr sm_69_3) tx_24v (pl_wh (by rw [tx_24e]; exact wh_un 60 _ _ _) tx_13z tx_24zz tx_2413) er⟩⟩ dX5_typedWholes_56 hlocks
  · skip
    have tx_13zz : sto Y1.1 ≠ 0 := Nat.ne_of_gt tx_13z
    obtain ⟨tx_13v, tx_13p⟩ := tx_13b tx_13zz
    have tx_13nn : ¬ 0 ≤ r_6 := Int32.not_le.mpr (by rw [tx_13v]; exact sc_neg tx_13zz)
    clear tx_13g tx_13b
    refine lv_istore (lv' := [(5, .int r_6), (4, .int 0), (0, .ref (ga G 4)), (1, .int (nI n9)), (2, .int (nI lv)), (3, .int (nI dp))]) hx hb dX5_typedWholes_27 hl (by decide) rfl (fun ls hl => ?_)
    refine lv_iload hx hb dX5_typedWholes_29 (lv_at hl 0 rfl) ?_
    refine lv_if_ge (tgt := 39) hx hb dX5_typedWholes_31 (by decide) (fun c_70 => absurd c_70 tx_13nn) (fun c_70 => ?_)
    refine lv_iload hx hb dX5_typedWholes_34 (lv_at hl 0 rfl) ?_
    refine lv_goto (tgt := 47) hx hb dX5_typedWholes_36 (by decide) ?_
    refine lv_istore (lv' := [(6, .int r_6), (5, .int r_6), (4, .int 0), (0, .ref (ga G 4)), (1, .int (nI n9)), (2, .int (nI lv)), (3, .int (nI dp))]) hx hb dX5_typedWholes_47 hl (by decide) rfl (fun ls hl => ?_)
    refine lv_iload hx hb dX5_typedWholes_49 (lv_at hl 0 rfl) ?_
    refine lv_if_ge (tgt := 57) hx hb dX5_typedWholes_51 (by decide) (fun c_71 => absurd c_71 tx_13nn) (fun c_71 => ?_)
    refine lv_iload hx hb dX5_typedWholes_54 (lv_at hl 0 rfl) ?_
    have sm_72_1 : SM Y1.1 Y2 := by rw [e2]; exact (sm_puts _ _ _ tx_13zz)
    have sm_72_1h : sto Y2 ≠ 0 := sm_72_1.ne tx_13zz
    have sm_72_2 : SM Y2 Y3.1 := by rw [e3]; exact (sm_ty sm_72_1h)
    have sm_72_2h : sto Y3.1 ≠ 0 := sm_72_2.ne sm_72_1h
    have sm_72_3 : SM Y3.1 Y4 := by rw [e4]; exact (sm_puts _ _ _ sm_72_2h)
    have sm_72_3h : sto Y4 ≠ 0 := sm_72_3.ne sm_72_2h
    exact c_iret (v := r_6) hx hb hr hK hP hD hS hC hh hpp ⟨aw_10t, ⟨(TX.bad tx_13A (by omega) (Int32.not_le.mp tx_13nn)), yf_bad (YC.cm tx_13yc (by omega)) tx_13zz ((sm_72_1.tr sm_72_2).tr sm_72_3) tx_13v (Or.inl tx_13p) er⟩⟩ dX5_typedWholes_56 hlocks

