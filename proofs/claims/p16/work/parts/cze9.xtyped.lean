set_option maxHeartbeats 4000000 in
set_option maxRecDepth 100000 in
/-- typedLet -/
theorem x_typedLet (l : Launch) (G : cG) (S : cS) (fu : Nat) (T : Nat) (V : Nat) (X : Nat) (Y : Nat) (Z : Nat) (q : Nat) (N : Nat) (dp : Nat) (lv : Nat) (tr : aM) (mk : Nat → Int32) (rk : Nat → Nat) (top : Nat) (gs : Nat → Prop) (z : aS) (n9 : Nat) (tm : Nat) (hC : CL S) (ih : xTypedAt fu) (hU : US S T V X Y Z q) (hq : q ≤ 1500) (h15 : kK S 15 = 0) (hT : TJ S N) (hdp : dp + (fu + 1) = 61) (hlv : lv ≤ dp) (hY2 : Y + (6 * (fu + 1) + 372) ≤ 900) (hE : TC S tr mk N) (hO : TO S tr N) (hrk : RKs tr rk N) (hn : n9 < N) (htp : top < N) (h11 : S.1 11 = nI top) (hcv : ∀ j, Cv gs tr top j n9) (hz : KT S z) (hkq : KQ S z) (hm0 : KM0 S tm) (h8 : S.1 8 = nI tm) (htm : tm + 1501 + cntT tr ((fu + 1)) n9 ≤ 2 ^ 29 + stp z) (h0 : sto z = 0) (hzq : stp z = q) (h13 : S.1 13 = -9) (hk2 : kK S 23 = 120 ∧ kK S 24 = 120) (hgc : GC gs z S) (hkd : tr 0 n9 = 7) (Hs : Heap) : Met l yX5_typedLet (wC yX5_typedLet cX5_typedLet 5 (some .int)) (cRm S (2 * fu + 141) (60 * fu + 6530)) (cPc G S Hs [.ref (ga G 4), .int (nI n9), .int (nI lv), .int (nI dp)]) (cQi G S Hs (fun v u => AW [6, 7, 8, 9, 16, 14, 10, 11, 12, 13, 17, 18, 23, 24, 25, 26, 35] [8, 9, 10, 12, 13] S u ∧ (TX u T V Y q (6 * (fu + 1) + 372) v ∧ YF S u Y tm (cntT tr (fu + 1) n9) gs n9 z (ty tr top (fu + 1) z n9 lv) v))) (CC - PT S) (12 * (CC - PT S)) (cA G S Hs.size) := by
  refine Met.ofW (cc := cX5_typedLet) (maxL := 5) (ret := (some .int)) (by decide) rfl ?_
  intro p e s m args below meth c s₁ B hml hv
  obtain ⟨rfl, hsz, hP, hK, hD0, -⟩ := hv
  have hx := B.exec
  have hb := B.bytes
  have hr := B.returns
  have htu : ∀ w ∈ CU, w.before _ s = true := fun w h => atoms_spec (ws := (wC yX5_typedLet cX5_typedLet 5 (some .int))) B.pre w (List.mem_cons_of_mem _ h)
  have hown : s.vm.findClass RX5 = some m.cls := findClass_of_methodNamed B.named
  have hlocks := B.notSynchronized
  subst hsz
  have hD : cD (cA G S s.heap.size) G S := cD_self hD0
  have hl := lv_entry ([.ref (ga G 4), .int (nI n9), .int (nI lv), .int (nI dp)]) (n := 5) (Nat.le_of_ble_eq_true rfl)
  rw [lg_entry_eq]
  generalize (lg_sl ([.ref (ga G 4), .int (nI n9), .int (nI lv), .int (nI dp)]) ++ List.replicate (5 - (lg_sl ([.ref (ga G 4), .int (nI n9), .int (nI lv), .int (nI dp)])).length) Slot.unset).toArray = ls at hl ⊢
  have hl : lv_has ls 5 [(0, .ref (ga G 4)), (1, .int (nI n9)), (2, .int (nI lv)), (3, .int (nI dp))] := hl
  obtain ⟨H, hHe⟩ : ∃ H : Heap, H = s.heap := ⟨_, rfl⟩
  rw [← hHe] at hP
  have hS : va_S (cA G S s.heap.size) s.heap H [] := by rw [hHe]; exact va_S.rf
  have hh : HS S S := HS.rf
  have hpp : PT S ≤ PT S := Nat.le_refl _
  have hB9 := hC.1
  refine W.heq hHe ?_
  refine c_ent (S := S) ?_
  obtain ⟨tT, tV, tB, tX⟩ := id hU.1.2.1
  have yc0 : YC S S Y tm 0 gs z z tm gs := ⟨hz, hkq, hm0, h8, ⟨Nat.le_refl _, Nat.le_refl _, by omega⟩, fun _ _ => ⟨rfl, rfl⟩, hk2, fun _ => ⟨fun _ h => h, hgc⟩⟩
  have hp9 : prts (tr 0 n9) (tr 2 n9) = 2 := by rw [hkd]; rfl
  obtain ⟨Y1, Y2, Y3, e1, e2, e3, er⟩ := ty_7 (top := top) (k := fu) (l := lv) h0 hkd
  have hct := cnt_2 (tr := tr) (k := fu) (n := n9) hp9
  refine lv_aload_n hx hb dX5_typedLet_0 rfl (lv_at hl 0 rfl) ?_
  refine lv_aload_n hx hb dX5_typedLet_1 rfl (lv_at hl 0 rfl) ?_
  refine va_get (D := gD G) (ci := 5) (v := .ref (ga G 1)) (C := RX5) (T := TX5) (N := 15) hx hb htu cu_in5 hown hK hP 4 cw_4 rfl 0 (by decide) (htu _ C_60) (fun _ h9 => h9) rfl dX5_typedLet_2 ?_
  refine lv_iload_n hx hb dX5_typedLet_5 rfl (lv_at hl 1 rfl) ?_
  refine lv_iconst (v := 0) hx hb dX5_typedLet_6 (by decide) ?_
  have hC0 := hC
  refine c_ci (c_runV (As := [.int (nI n9), .int 0]) (rest := [.ref (ga G 4)]) (q0 := 1) (ci := 3) ⟨hx, hb, hml, hown, htu⟩ (tt_partOf l G S N (nI n9) 0 hC hT.1 H) (cwV 2 htu hU_X5_144 rfl rfl rfl (by decide +kernel) ⟨show 1 + 1 ≤ 2 * fu + 141 by omega, show 8 + (3 + 11) + 21 ≤ 60 * fu + 6530 by omega⟩) hP hK hD hC hpp cw_1 rfl rfl hl.1 rfl (lv_room (Nat.le_of_ble_eq_true rfl)) dX5_typedLet_7) hS hD hh hpp (fun r_1 S_2 H locs hw_3 hP hD hS hC hh hs_4 hpq => ?_)
  clear hpp
  have hpp := hpq
  clear hpq
  obtain ⟨-, hu9, hw_3⟩ := hw_3
  have hu9 := hu9.symm
  subst hu9
  obtain rfl : r_1 = nI (tr 10 n9) := hw_3.trans ((hE.aw (AW.rf (rs := []) (is := [])) (by decide)).part hn (i := 0) (by rw [hp9]; decide))
  refine lv_iload_n hx hb dX5_typedLet_10 rfl (lv_at hl 2 rfl) ?_
  refine lv_iconst (v := 1) hx hb dX5_typedLet_11 (by decide) ?_
  refine lv_iadd hx hb dX5_typedLet_12 ?_
  refine m_top (y := nI (lv + 1)) (nI_add lv 1) ?_
  refine lv_iload_n hx hb dX5_typedLet_13 rfl (lv_at hl 3 rfl) ?_
  refine lv_iconst (v := 1) hx hb dX5_typedLet_14 (by decide) ?_
  refine lv_iadd hx hb dX5_typedLet_15 ?_
  refine m_top (y := nI (dp + 1)) (nI_add dp 1) ?_
  have hC0 := hC
  refine c_ci (c_runV (As := [.int (nI (tr 10 n9)), .int (nI (lv + 1)), .int (nI (dp + 1))]) (rest := []) (q0 := 4) (ci := 5) ⟨hx, hb, hml, hown, htu⟩ (ih l G S T V X Y Z q N ((dp + 1)) ((lv + 1)) tr mk rk top gs z ((tr 10 n9)) tm hC hU ((by omega)) h15 hT ((by omega)) ((by omega)) ((by omega)) ((hE.aw (AW.rf (rs := []) (is := [])) (by decide))) ((hO.aw (AW.rf (rs := []) (is := [])) (by decide))) hrk ((hE.plt hn (i := 0) (by rw [hp9]; decide))) htp ((((AW.rf (rs := []) (is := [])).1 11 (by decide)).trans h11)) ((Cv.part hcv ((hO n9 hn).2.2.1 0 (by rw [hp9]; decide)) (yc0.2.2.2.2.2.2.2 h0).1 (fun h => by unfold covers at h; have := (hO n9 hn).2.2.2 hkd; omega))) yc0.1 yc0.2.1 yc0.2.2.1 yc0.2.2.2.1 ((by have := yc0.2.2.2.2.1; omega)) h0 hzq h13 yc0.2.2.2.2.2.2.1 ((yc0.2.2.2.2.2.2.2 h0).2) H) (cwV 3 htu hU_X5_77 rfl rfl rfl (by decide +kernel) ⟨show (2 * fu + 140) + 1 ≤ 2 * fu + 141 by omega, show 8 + (5 + 11) + (60 * fu + 6500) ≤ 60 * fu + 6530 by omega⟩) hP hK hD hC hpp cw_4 rfl rfl hl.1 rfl (lv_room (Nat.le_of_ble_eq_true rfl)) dX5_typedLet_16) hS hD hh hpp (fun r_5 S_6 H locs hw_7 hP hD hS hC hh hs_8 hpq => ?_)
  clear hpp
  have hpp := hpq
  clear hpq
  try dsimp only at hw_7
  have aw_9 : AW [6, 7, 8, 9, 16, 14, 10, 11, 12, 13, 17, 18, 23, 24, 25, 26, 35] [8, 9, 10, 12, 13] S S_6 := hw_7.1
  have aw_9t : AW [6, 7, 8, 9, 16, 14, 10, 11, 12, 13, 17, 18, 23, 24, 25, 26, 35] [8, 9, 10, 12, 13] S S_6 := AW.rf.tr (aw_9.mono (by decide) (by decide))
  have kk_10 : kK S_6 15 = 0 := (aw_9.2.1 15 (lt35 (by decide)) (by decide)).2.trans h15
  have tj_11 : TJ S_6 N := TJ.aw hT aw_9 (by decide)
  obtain ⟨tx_12A, tx_12E⟩ := hw_7.2
  clear hw_7
  rw [← e1] at tx_12E
  obtain ⟨⟨tx_12t, tx_12gs, tx_12y0⟩, tx_12g, tx_12b⟩ := tx_12E
  have tx_12yc := YC.tr yc0 tx_12y0 (show Y ≤ Y by omega) h0
  have nm_13 : nT z ≤ nT Y1.1 := by rw [e1]; exact (x_ty _ _ _ _ _ _).1
  rcases Nat.eq_zero_or_pos (sto Y1.1) with tx_12z | tx_12z
  · skip
    obtain ⟨tx_12v, tx_12x, tx_1212, tx_1213⟩ := tx_12g tx_12z
    subst tx_12v
    have tx_126 := tx_12yc.1.1.2.2.2.2.2.2.2.1
    have tx_120 : 0 ≤ nI Y1.2 := Int32.not_lt.mp (nI_n0 (by omega))
    obtain ⟨tx_12T, tx_12V, tx_12X, tx_12Z, tx_12q, tx_12u, tx_121, tx_122, tx_123, tx_124⟩ := tx_12A.ok tx_120
    obtain ⟨tx_12tT, tx_12tV, tx_12tB, tx_12tX⟩ := id tx_12u.1.2.1
    have tx_12sq : stp Y1.1 = tx_12q := (nI_eq (by have := tx_12yc.2.2.2.2.1; omega) (by omega)).mp (tx_1212.symm.trans tx_12u.2.1)
    clear tx_12g tx_12b tx_12A
    refine lv_istore (lv' := [(4, .int (nI Y1.2)), (0, .ref (ga G 4)), (1, .int (nI n9)), (2, .int (nI lv)), (3, .int (nI dp))]) hx hb dX5_typedLet_19 hl (by decide) rfl (fun ls hl => ?_)
    refine lv_iload hx hb dX5_typedLet_21 (lv_at hl 0 rfl) ?_
    refine lv_if_ge (tgt := 29) hx hb dX5_typedLet_23 (by decide) (fun c_14 => ?_) (fun c_14 => absurd (Int32.not_lt.mp (nI_n0 (by omega))) c_14)
    refine lv_aload_n hx hb dX5_typedLet_29 rfl (lv_at hl 1 rfl) ?_
    refine lv_iload_n hx hb dX5_typedLet_30 rfl (lv_at hl 2 rfl) ?_
    refine lv_iload hx hb dX5_typedLet_31 (lv_at hl 0 rfl) ?_
    refine lv_iload_n hx hb dX5_typedLet_33 rfl (lv_at hl 3 rfl) ?_
    have hC0 := hC
    refine c_cv (c_runV (As := [.int (nI n9), .int (nI Y1.2), .int (nI lv)]) (rest := []) (q0 := 4) (ci := 5) ⟨hx, hb, hml, hown, htu⟩ (xk_gives l G S_6 n9 (nI Y1.2) (nI lv) hC tx_12yc.2.2.2.2.2.2.1.1 tx_12yc.2.2.2.2.2.2.1.2 ((Nat.lt_of_lt_of_le hn hT.1.1)) H) (cwV 3 htu hU_X5_140 rfl rfl rfl (by decide +kernel) ⟨show 1 + 1 ≤ 2 * fu + 141 by omega, show 8 + (4 + 11) + 22 ≤ 60 * fu + 6530 by omega⟩) hP hK hD hC hpp cw_4 rfl rfl hl.1 rfl (lv_room (Nat.le_of_ble_eq_true rfl)) dX5_typedLet_34) hS hD hh hpp (fun S_16 H locs hw_17 hP hD hS hC hh hs_18 hpq => ?_)
    clear hpp
    have hpp := hpq
    clear hpq
    try dsimp only at hw_17
    have aw_19 : AW [23, 24] [] S_6 S_16 := hw_17.1
    have aw_19t : AW [6, 7, 8, 9, 16, 14, 10, 11, 12, 13, 17, 18, 23, 24, 25, 26, 35] [8, 9, 10, 12, 13] S S_16 := aw_9t.tr (aw_19.mono (by decide) (by decide))
    have kk_20 : kK S_16 15 = 0 := (aw_19.2.1 15 (lt35 (by decide)) (by decide)).2.trans kk_10
    have tj_21 : TJ S_16 N := TJ.aw tj_11 aw_19 (by decide)
    obtain ⟨gi_22k, gi_2223, gi_2224⟩ := hw_17.2
    have us_23 := US.aw tx_12u aw_19 (by decide) (by decide)
    have gi_22gc : GC (fun q => q = n9 ∨ tx_12gs q) Y2 S_16 := by rw [e2]; exact gc_gives (tx_12yc.2.2.2.2.2.2.2 tx_12z).2 (Nat.lt_of_lt_of_le hn hT.1.1) gi_2223 gi_2224 rfl tx_12x (by rw [if_neg (Nat.succ_ne_zero _), Nat.add_sub_cancel]) (by omega)
    have gi_22sm : SM Y1.1 Y2 := (by rw [e2]; exact sm_gives _ _ _ _)
    have gi_22yc := yc_give tx_12yc aw_19 (by decide) (by decide) gi_22k gi_22sm tx_12z (fun q hq => Or.inr hq) gi_22gc
    have gi_22z : sto Y2 = 0 := gi_22sm.st.trans tx_12z
    have gi_22sq : stp Y2 = tx_12q := gi_22sm.sp.trans tx_12sq
    have gi_2213 : S_16.1 13 = -9 := (aw_19.1 13 (by decide)).trans tx_1213
    have vl_24 : Y1.2 < nT Y2 := by rw [gi_22sm.n]; exact tx_12x
    refine lv_aload_n hx hb dX5_typedLet_37 rfl (lv_at hl 1 rfl) ?_
    refine lv_aload_n hx hb dX5_typedLet_38 rfl (lv_at hl 1 rfl) ?_
    refine va_get (D := gD G) (ci := 5) (v := .ref (ga G 1)) (C := RX5) (T := TX5) (N := 15) hx hb htu cu_in5 hown hK hP 4 cw_4 rfl 0 (by decide) (htu _ C_60) (fun _ h9 => h9) rfl dX5_typedLet_39 ?_
    refine lv_iload_n hx hb dX5_typedLet_42 rfl (lv_at hl 2 rfl) ?_
    refine lv_iconst (v := 1) hx hb dX5_typedLet_43 (by decide) ?_
    have hC0 := hC
    refine c_ci (c_runV (As := [.int (nI n9), .int 1]) (rest := [.ref (ga G 4)]) (q0 := 1) (ci := 3) ⟨hx, hb, hml, hown, htu⟩ (tt_partOf l G S_16 N (nI n9) 1 hC tj_21.1 H) (cwV 2 htu hU_X5_144 rfl rfl rfl (by decide +kernel) ⟨show 1 + 1 ≤ 2 * fu + 141 by omega, show 8 + (3 + 11) + 21 ≤ 60 * fu + 6530 by omega⟩) hP hK hD hC hpp cw_1 rfl rfl hl.1 rfl (lv_room (Nat.le_of_ble_eq_true rfl)) dX5_typedLet_44) hS hD hh hpp (fun r_25 S_26 H locs hw_27 hP hD hS hC hh hs_28 hpq => ?_)
    clear hpp
    have hpp := hpq
    clear hpq
    obtain ⟨-, hu9, hw_27⟩ := hw_27
    have hu9 := hu9.symm
    subst hu9
    obtain rfl : r_25 = nI (tr 11 n9) := hw_27.trans ((hE.aw aw_19t (by decide)).part hn (i := 1) (by rw [hp9]; decide))
    refine lv_iload_n hx hb dX5_typedLet_47 rfl (lv_at hl 3 rfl) ?_
    refine lv_iload_n hx hb dX5_typedLet_48 rfl (lv_at hl 4 rfl) ?_
    refine lv_iconst (v := 1) hx hb dX5_typedLet_49 (by decide) ?_
    refine lv_iadd hx hb dX5_typedLet_50 ?_
    refine m_top (y := nI (dp + 1)) (nI_add dp 1) ?_
    have hC0 := hC
    refine c_ci (c_runV (As := [.int (nI (tr 11 n9)), .int (nI lv), .int (nI (dp + 1))]) (rest := []) (q0 := 4) (ci := 5) ⟨hx, hb, hml, hown, htu⟩ (ih l G S_16 tx_12T tx_12V tx_12X Y tx_12Z tx_12q N ((dp + 1)) lv tr mk rk top ((fun q => q = n9 ∨ tx_12gs q)) Y2 ((tr 11 n9)) tx_12t hC us_23 ((by omega)) kk_20 tj_21 ((by omega)) ((by omega)) ((by omega)) ((hE.aw aw_19t (by decide))) ((hO.aw aw_19t (by decide))) hrk ((hE.plt hn (i := 1) (by rw [hp9]; decide))) htp (((aw_19t.1 11 (by decide)).trans h11)) ((Cv.part hcv ((hO n9 hn).2.2.1 1 (by rw [hp9]; decide)) (gi_22yc.2.2.2.2.2.2.2 gi_22z).1 (fun _ => Or.inl rfl))) gi_22yc.1 gi_22yc.2.1 gi_22yc.2.2.1 gi_22yc.2.2.2.1 ((by have := gi_22yc.2.2.2.2.1; omega)) gi_22z gi_22sq gi_2213 gi_22yc.2.2.2.2.2.2.1 ((gi_22yc.2.2.2.2.2.2.2 gi_22z).2) H) (cwV 3 htu hU_X5_77 rfl rfl rfl (by decide +kernel) ⟨show (2 * fu + 140) + 1 ≤ 2 * fu + 141 by omega, show 8 + (5 + 11) + (60 * fu + 6500) ≤ 60 * fu + 6530 by omega⟩) hP hK hD hC hpp cw_4 rfl rfl hl.1 rfl (lv_room (Nat.le_of_ble_eq_true rfl)) dX5_typedLet_51) hS hD hh hpp (fun r_29 S_30 H locs hw_31 hP hD hS hC hh hs_32 hpq => ?_)
    clear hpp
    have hpp := hpq
    clear hpq
    try dsimp only at hw_31
    have aw_33 : AW [6, 7, 8, 9, 16, 14, 10, 11, 12, 13, 17, 18, 23, 24, 25, 26, 35] [8, 9, 10, 12, 13] S_16 S_30 := hw_31.1
    have aw_33t : AW [6, 7, 8, 9, 16, 14, 10, 11, 12, 13, 17, 18, 23, 24, 25, 26, 35] [8, 9, 10, 12, 13] S S_30 := aw_19t.tr (aw_33.mono (by decide) (by decide))
    have kk_34 : kK S_30 15 = 0 := (aw_33.2.1 15 (lt35 (by decide)) (by decide)).2.trans kk_20
    have tj_35 : TJ S_30 N := TJ.aw tj_21 aw_33 (by decide)
    obtain ⟨tx_36A, tx_36E⟩ := hw_31.2
    clear hw_31
    rw [← e3] at tx_36E
    obtain ⟨⟨tx_36t, tx_36gs, tx_36y0⟩, tx_36g, tx_36b⟩ := tx_36E
    have tx_36yc := YC.tr gi_22yc tx_36y0 (show Y ≤ Y by omega) gi_22z
    have nm_37 : nT Y2 ≤ nT Y3.1 := by rw [e3]; exact (x_ty _ _ _ _ _ _).1
    have vl_38 : Y1.2 < nT Y3.1 := Nat.lt_of_lt_of_le vl_24 nm_37
    rcases Nat.eq_zero_or_pos (sto Y3.1) with tx_36z | tx_36z
    · skip
      obtain ⟨tx_36v, tx_36x, tx_3612, tx_3613⟩ := tx_36g tx_36z
      subst tx_36v
      have tx_366 := tx_36yc.1.1.2.2.2.2.2.2.2.1
      have tx_360 : 0 ≤ nI Y3.2 := Int32.not_lt.mp (nI_n0 (by omega))
      obtain ⟨tx_36T, tx_36V, tx_36X, tx_36Z, tx_36q, tx_36u, tx_361, tx_362, tx_363, tx_364⟩ := tx_36A.ok tx_360
      obtain ⟨tx_36tT, tx_36tV, tx_36tB, tx_36tX⟩ := id tx_36u.1.2.1
      have tx_36sq : stp Y3.1 = tx_36q := (nI_eq (by have := tx_36yc.2.2.2.2.1; omega) (by omega)).mp (tx_3612.symm.trans tx_36u.2.1)
      clear tx_36g tx_36b tx_36A
      exact c_iret (v := nI Y3.2) hx hb hr hK hP hD hS hC hh hpp ⟨aw_33t, ⟨US.tx tx_36u (by omega) _, yf_good (YC.cm tx_36yc (by omega)) tx_36z rfl tx_36x (tx_36u.2.1.trans (by rw [tx_36sq])) tx_3613 er⟩⟩ dX5_typedLet_54 hlocks
    · skip
      have tx_36zz : sto Y3.1 ≠ 0 := Nat.ne_of_gt tx_36z
      obtain ⟨tx_36v, tx_36p⟩ := tx_36b tx_36zz
      have tx_36nn : ¬ 0 ≤ r_29 := Int32.not_le.mpr (by rw [tx_36v]; exact sc_neg tx_36zz)
      clear tx_36g tx_36b
      exact c_iret (v := r_29) hx hb hr hK hP hD hS hC hh hpp ⟨aw_33t, ⟨(TX.bad tx_36A (by omega) (Int32.not_le.mp tx_36nn)), yf_bad (YC.cm tx_36yc (by omega)) tx_36zz SM.rf tx_36v (Or.inl tx_36p) er⟩⟩ dX5_typedLet_54 hlocks
  · skip
    have tx_12zz : sto Y1.1 ≠ 0 := Nat.ne_of_gt tx_12z
    obtain ⟨tx_12v, tx_12p⟩ := tx_12b tx_12zz
    have tx_12nn : ¬ 0 ≤ r_5 := Int32.not_le.mpr (by rw [tx_12v]; exact sc_neg tx_12zz)
    clear tx_12g tx_12b
    refine lv_istore (lv' := [(4, .int r_5), (0, .ref (ga G 4)), (1, .int (nI n9)), (2, .int (nI lv)), (3, .int (nI dp))]) hx hb dX5_typedLet_19 hl (by decide) rfl (fun ls hl => ?_)
    refine lv_iload hx hb dX5_typedLet_21 (lv_at hl 0 rfl) ?_
    refine lv_if_ge (tgt := 29) hx hb dX5_typedLet_23 (by decide) (fun c_40 => absurd c_40 tx_12nn) (fun c_40 => ?_)
    refine lv_iload hx hb dX5_typedLet_26 (lv_at hl 0 rfl) ?_
    have sm_41_1 : SM Y1.1 Y2 := by rw [e2]; exact (sm_gives _ _ _ _)
    have sm_41_1h : sto Y2 ≠ 0 := sm_41_1.ne tx_12zz
    have sm_41_2 : SM Y2 Y3.1 := by rw [e3]; exact (sm_ty sm_41_1h)
    have sm_41_2h : sto Y3.1 ≠ 0 := sm_41_2.ne sm_41_1h
    exact c_iret (v := r_5) hx hb hr hK hP hD hS hC hh hpp ⟨aw_9t, ⟨(TX.bad tx_12A (by omega) (Int32.not_le.mp tx_12nn)), yf_bad (YC.cm tx_12yc (by omega)) tx_12zz (sm_41_1.tr sm_41_2) tx_12v (Or.inl tx_12p) er⟩⟩ dX5_typedLet_28 hlocks

set_option maxHeartbeats 4000000 in
set_option maxRecDepth 100000 in
/-- typedRec -/
theorem x_typedRec (l : Launch) (G : cG) (S : cS) (fu : Nat) (T : Nat) (V : Nat) (X : Nat) (Y : Nat) (Z : Nat) (q : Nat) (N : Nat) (dp : Nat) (lv : Nat) (tr : aM) (mk : Nat → Int32) (rk : Nat → Nat) (top : Nat) (gs : Nat → Prop) (z : aS) (n9 : Nat) (tm : Nat) (hC : CL S) (ih : xTypedAt fu) (hU : US S T V X Y Z q) (hq : q ≤ 1500) (h15 : kK S 15 = 0) (hT : TJ S N) (hdp : dp + (fu + 1) = 61) (hlv : lv ≤ dp) (hY2 : Y + (6 * (fu + 1) + 372) ≤ 900) (hE : TC S tr mk N) (hO : TO S tr N) (hrk : RKs tr rk N) (hn : n9 < N) (htp : top < N) (h11 : S.1 11 = nI top) (hcv : ∀ j, Cv gs tr top j n9) (hz : KT S z) (hkq : KQ S z) (hm0 : KM0 S tm) (h8 : S.1 8 = nI tm) (htm : tm + 1501 + cntT tr ((fu + 1)) n9 ≤ 2 ^ 29 + stp z) (h0 : sto z = 0) (hzq : stp z = q) (h13 : S.1 13 = -9) (hk2 : kK S 23 = 120 ∧ kK S 24 = 120) (hgc : GC gs z S) (hkd : tr 0 n9 = 8) (Hs : Heap) : Met l yX5_typedRec (wC yX5_typedRec cX5_typedRec 7 (some .int)) (cRm S (2 * fu + 141) (60 * fu + 6530)) (cPc G S Hs [.ref (ga G 4), .int (nI n9), .int (nI lv), .int (nI dp)]) (cQi G S Hs (fun v u => AW [6, 7, 8, 9, 16, 14, 10, 11, 12, 13, 17, 18, 23, 24, 25, 26, 35] [8, 9, 10, 12, 13] S u ∧ (TX u T V Y q (6 * (fu + 1) + 372) v ∧ YF S u Y tm (cntT tr (fu + 1) n9) gs n9 z (ty tr top (fu + 1) z n9 lv) v))) (CC - PT S) (12 * (CC - PT S)) (cA G S Hs.size) := by
  refine Met.ofW (cc := cX5_typedRec) (maxL := 7) (ret := (some .int)) (by decide) rfl ?_
  intro p e s m args below meth c s₁ B hml hv
  obtain ⟨rfl, hsz, hP, hK, hD0, -⟩ := hv
  have hx := B.exec
  have hb := B.bytes
  have hr := B.returns
  have htu : ∀ w ∈ CU, w.before _ s = true := fun w h => atoms_spec (ws := (wC yX5_typedRec cX5_typedRec 7 (some .int))) B.pre w (List.mem_cons_of_mem _ h)
  have hown : s.vm.findClass RX5 = some m.cls := findClass_of_methodNamed B.named
  have hlocks := B.notSynchronized
  subst hsz
  have hD : cD (cA G S s.heap.size) G S := cD_self hD0
  have hl := lv_entry ([.ref (ga G 4), .int (nI n9), .int (nI lv), .int (nI dp)]) (n := 7) (Nat.le_of_ble_eq_true rfl)
  rw [lg_entry_eq]
  generalize (lg_sl ([.ref (ga G 4), .int (nI n9), .int (nI lv), .int (nI dp)]) ++ List.replicate (7 - (lg_sl ([.ref (ga G 4), .int (nI n9), .int (nI lv), .int (nI dp)])).length) Slot.unset).toArray = ls at hl ⊢
  have hl : lv_has ls 7 [(0, .ref (ga G 4)), (1, .int (nI n9)), (2, .int (nI lv)), (3, .int (nI dp))] := hl
  obtain ⟨H, hHe⟩ : ∃ H : Heap, H = s.heap := ⟨_, rfl⟩
  rw [← hHe] at hP
  have hS : va_S (cA G S s.heap.size) s.heap H [] := by rw [hHe]; exact va_S.rf
  have hh : HS S S := HS.rf
  have hpp : PT S ≤ PT S := Nat.le_refl _
  have hB9 := hC.1
  refine W.heq hHe ?_
  refine c_ent (S := S) ?_
  obtain ⟨tT, tV, tB, tX⟩ := id hU.1.2.1
  have yc0 : YC S S Y tm 0 gs z z tm gs := ⟨hz, hkq, hm0, h8, ⟨Nat.le_refl _, Nat.le_refl _, by omega⟩, fun _ _ => ⟨rfl, rfl⟩, hk2, fun _ => ⟨fun _ h => h, hgc⟩⟩
  have hp9 : prts (tr 0 n9) (tr 2 n9) = 2 := by rw [hkd]; rfl
  obtain ⟨Y1, Y2, Y3, Y4, Y5, Y6, e1, e2, e3, e4, e5, e6, er⟩ := ty_8 (top := top) (k := fu) (l := lv) h0 hkd
  have hct := cnt_2 (tr := tr) (k := fu) (n := n9) hp9
  refine lv_aload_n hx hb dX5_typedRec_0 rfl (lv_at hl 0 rfl) ?_
  refine va_get (D := gD G) (ci := 5) (v := .ref (ga G 2)) (C := RX5) (T := TX5) (N := 15) hx hb htu cu_in5 hown hK hP 4 cw_4 rfl 1 (by decide) (htu _ C_45) (fun _ h9 => h9) rfl dX5_typedRec_1 ?_
  refine lv_iload_n hx hb dX5_typedRec_4 rfl (lv_at hl 2 rfl) ?_
  refine lv_iconst (v := 1) hx hb dX5_typedRec_5 (by decide) ?_
  refine lv_iadd hx hb dX5_typedRec_6 ?_
  refine m_top (y := nI (lv + 1)) (nI_add lv 1) ?_
  have ya_1 := yc_askn yc0 n9
  have ya_1T : nT z = T := yc0.1.1.1.symm.trans hU.1.1.1
  have hC0 := hC
  refine c_ci (c_runV (As := [.int (nI (lv + 1))]) (rest := []) (q0 := 2) (ci := 4) ⟨hx, hb, hml, hown, htu⟩ (x_addVariable l G S T V V X Y Z ((w1 z 0 5 n9)) ((lv + 1)) hC hU.1 rfl ya_1.1 ((by omega)) H) (cwV 1 htu hU_X5_137 rfl rfl rfl (by decide +kernel) ⟨show 4 + 1 ≤ 2 * fu + 141 by omega, show 8 + (4 + 11) + 128 ≤ 60 * fu + 6530 by omega⟩) hP hK hD hC hpp cw_2 rfl rfl hl.1 rfl (lv_room (Nat.le_of_ble_eq_true rfl)) dX5_typedRec_7) hS hD hh hpp (fun r_2 S_3 H locs hw_4 hP hD hS hC hh hs_5 hpq => ?_)
  clear hpp
  have hpp := hpq
  clear hpq
  try dsimp only at hw_4
  have aw_6 : AW [6, 7, 8, 9, 16, 14, 35] [] S S_3 := hw_4.1
  have aw_6t : AW [6, 7, 8, 9, 16, 14, 10, 11, 12, 13, 17, 18, 23, 24, 25, 26, 35] [8, 9, 10, 12, 13] S S_3 := AW.rf.tr (aw_6.mono (by decide) (by decide))
  have kk_7 : kK S_3 15 = 0 := (aw_6.2.1 15 (lt35 (by decide)) (by decide)).2.trans h15
  have tj_8 : TJ S_3 N := TJ.aw hT aw_6 (by decide)
  have hw_49 := hw_4.2
  clear hw_4
  rcases hw_49 with ⟨ty_9v, ty_9s, ty_9f⟩ | ⟨ty_9v, ty_9t, ty_9, ty_9o, ty_94, ty_98, ⟨ty_9q, ty_9w, ty_9x, ty_9y⟩, ⟨ty_9150, ty_9kt⟩, ty_9l⟩
  · skip
    subst ty_9v
    have ty_9Y : Y1 = (stops (w1 z 0 5 n9) 1 n9, 0) := e1.trans (fresh_f h0 ty_9f)
    have ty_9yc : YC S S_3 Y tm 0 gs z Y1.1 tm gs := by rw [ty_9Y, ty_9s]; exact yc_stops ya_1 1 n9 (by decide) h0
    have ty_9st : sto Y1.1 = 1 := by rw [ty_9Y]; exact sto_sp9 (s := w1 z 0 5 n9) h0
    have ty_9zz : sto Y1.1 ≠ 0 := by rw [ty_9st]; decide
    have ty_9hv : (-6 : Int32) = sc (sto Y1.1) := by rw [ty_9st]; rfl
    have ty_9pl : PL S_3 Y1.1 n9 := by rw [ty_9Y, ty_9s]; exact pl_stops (w := w1 z 0 5 n9) h0 h13
    have ty_9tx : TX S_3 T V Y q (6 * (fu + 1) + 372) (-6) := by rw [ty_9s]; exact US.txb hU (by omega) (by omega) (by decide)
    refine lv_istore (lv' := [(4, .int ((-6))), (0, .ref (ga G 4)), (1, .int (nI n9)), (2, .int (nI lv)), (3, .int (nI dp))]) hx hb dX5_typedRec_10 hl (by decide) rfl (fun ls hl => ?_)
    refine lv_iload hx hb dX5_typedRec_12 (lv_at hl 0 rfl) ?_
    refine lv_if_ge (tgt := 20) hx hb dX5_typedRec_14 (by decide) (fun c_10 => absurd c_10 (by decide)) (fun c_10 => ?_)
    refine lv_iload hx hb dX5_typedRec_17 (lv_at hl 0 rfl) ?_
    have sm_11_1 : SM Y1.1 Y2 := by rw [e2]; exact (sm_gives _ _ _ _)
    have sm_11_1h : sto Y2 ≠ 0 := sm_11_1.ne ty_9zz
    have sm_11_2 : SM Y2 Y3.1 := by rw [e3]; exact (sm_ty sm_11_1h)
    have sm_11_2h : sto Y3.1 ≠ 0 := sm_11_2.ne sm_11_1h
    have sm_11_3 : SM Y3.1 Y4 := by rw [e4]; exact (sm_puts _ _ _ sm_11_2h)
    have sm_11_3h : sto Y4 ≠ 0 := sm_11_3.ne sm_11_2h
    have sm_11_4 : SM Y4 Y5 := by rw [e5]; exact (sm_w _ 9 _ _ (Or.inr (by decide)))
    have sm_11_4h : sto Y5 ≠ 0 := sm_11_4.ne sm_11_3h
    have sm_11_5 : SM Y5 Y6.1 := by rw [e6]; exact (sm_ty sm_11_4h)
    have sm_11_5h : sto Y6.1 ≠ 0 := sm_11_5.ne sm_11_4h
    exact c_iret (v := (-6)) hx hb hr hK hP hD hS hC hh hpp ⟨aw_6t, ⟨ty_9tx, yf_bad (YC.cm ty_9yc (by omega)) ty_9zz ((((sm_11_1.tr sm_11_2).tr sm_11_3).tr sm_11_4).tr sm_11_5) ty_9hv ty_9pl er⟩⟩ dX5_typedRec_19 hlocks
  · skip
    have ty_9us := US.var hU ty_9 aw_6 (by decide) ty_9w ty_9x ty_9y
    obtain ⟨ty_9ut, ty_9uv, ty_9ub, ty_9ux⟩ := id ty_9us.1.2.1
    have ty_9Y : Y1 = (newV (w1 z 0 5 n9) (lv + 1), nT z) := e1.trans (fresh_e h0 ty_9150 (by rw [ya_1T]; exact Nat.ne_of_lt ty_9t))
    have ty_9kq := kq_var (l := (lv + 1)) ya_1.2.1 aw_6 (by rw [show nT (w1 z 0 5 n9) = T from ya_1T]; exact ty_9l) (ty_9.1.2.2.2.2.1.trans (by rw [show nT (w1 z 0 5 n9) = T from ya_1T]))
    have ty_9yc : YC S S_3 Y tm 0 gs z Y1.1 tm gs := by rw [ty_9Y]; exact YC.leaf ya_1 aw_6 ty_9kt ty_9kq (by decide) (by decide) (fun _ => ⟨rfl, rfl⟩) (Nat.le_succ _) rfl h0
    have ty_9z0 : sto Y1.1 = 0 := by rw [ty_9Y]; exact h0
    have ty_9sq : stp Y1.1 = q := by rw [ty_9Y]; exact hzq
    have ty_92 : Y1.2 = T := by rw [ty_9Y]; exact ya_1T
    have ty_9lt : Y1.2 < nT Y1.1 := by rw [ty_9Y]; exact Nat.lt_succ_self _
    have ty_9nm : nT z ≤ nT Y1.1 := by rw [ty_9Y]; exact Nat.le_succ _
    have ty_913 : S_3.1 13 = -9 := (aw_6.1 13 (by decide)).trans h13
    obtain rfl : r_2 = nI Y1.2 := ty_9v.trans (by rw [ty_92])
    refine lv_istore (lv' := [(4, .int (nI Y1.2)), (0, .ref (ga G 4)), (1, .int (nI n9)), (2, .int (nI lv)), (3, .int (nI dp))]) hx hb dX5_typedRec_10 hl (by decide) rfl (fun ls hl => ?_)
    refine lv_iload hx hb dX5_typedRec_12 (lv_at hl 0 rfl) ?_
    refine lv_if_ge (tgt := 20) hx hb dX5_typedRec_14 (by decide) (fun c_12 => ?_) (fun c_12 => absurd (Int32.not_lt.mp (nI_n0 (by omega))) c_12)
    refine lv_aload_n hx hb dX5_typedRec_20 rfl (lv_at hl 1 rfl) ?_
    refine lv_iload_n hx hb dX5_typedRec_21 rfl (lv_at hl 2 rfl) ?_
    refine lv_iload hx hb dX5_typedRec_22 (lv_at hl 0 rfl) ?_
    refine lv_iconst (v := (-1)) hx hb dX5_typedRec_24 (by decide) ?_
    have hC0 := hC
    refine c_cv (c_runV (As := [.int (nI n9), .int (nI Y1.2), .int ((-1))]) (rest := []) (q0 := 4) (ci := 5) ⟨hx, hb, hml, hown, htu⟩ (xk_gives l G S_3 n9 (nI Y1.2) ((-1)) hC ty_9yc.2.2.2.2.2.2.1.1 ty_9yc.2.2.2.2.2.2.1.2 ((Nat.lt_of_lt_of_le hn hT.1.1)) H) (cwV 3 htu hU_X5_140 rfl rfl rfl (by decide +kernel) ⟨show 1 + 1 ≤ 2 * fu + 141 by omega, show 8 + (4 + 11) + 22 ≤ 60 * fu + 6530 by omega⟩) hP hK hD hC hpp cw_4 rfl rfl hl.1 rfl (lv_room (Nat.le_of_ble_eq_true rfl)) dX5_typedRec_25) hS hD hh hpp (fun S_14 H locs hw_15 hP hD hS hC hh hs_16 hpq => ?_)
    clear hpp
    have hpp := hpq
    clear hpq
    try dsimp only at hw_15
    have aw_17 : AW [23, 24] [] S_3 S_14 := hw_15.1
    have aw_17t : AW [6, 7, 8, 9, 16, 14, 10, 11, 12, 13, 17, 18, 23, 24, 25, 26, 35] [8, 9, 10, 12, 13] S S_14 := aw_6t.tr (aw_17.mono (by decide) (by decide))
    have kk_18 : kK S_14 15 = 0 := (aw_17.2.1 15 (lt35 (by decide)) (by decide)).2.trans kk_7
    have tj_19 : TJ S_14 N := TJ.aw tj_8 aw_17 (by decide)
    obtain ⟨gi_20k, gi_2023, gi_2024⟩ := hw_15.2
    have us_21 := US.aw ty_9us aw_17 (by decide) (by decide)
    have gi_20gc : GC (fun q => q = n9 ∨ gs q) Y2 S_14 := by rw [e2]; exact gc_gives (ty_9yc.2.2.2.2.2.2.2 ty_9z0).2 (Nat.lt_of_lt_of_le hn hT.1.1) gi_2023 gi_2024 rfl ty_9lt rfl (by omega)
    have gi_20sm : SM Y1.1 Y2 := (by rw [e2]; exact sm_gives _ _ _ _)
    have gi_20yc := yc_give ty_9yc aw_17 (by decide) (by decide) gi_20k gi_20sm ty_9z0 (fun q hq => Or.inr hq) gi_20gc
    have gi_20z : sto Y2 = 0 := gi_20sm.st.trans ty_9z0
    have gi_20sq : stp Y2 = q := gi_20sm.sp.trans ty_9sq
    have gi_2013 : S_14.1 13 = -9 := (aw_17.1 13 (by decide)).trans ty_913
    have vl_22 : Y1.2 < nT Y2 := by rw [gi_20sm.n]; exact ty_9lt
    refine lv_aload_n hx hb dX5_typedRec_28 rfl (lv_at hl 1 rfl) ?_
    refine lv_aload_n hx hb dX5_typedRec_29 rfl (lv_at hl 1 rfl) ?_
    refine va_get (D := gD G) (ci := 5) (v := .ref (ga G 1)) (C := RX5) (T := TX5) (N := 15) hx hb htu cu_in5 hown hK hP 4 cw_4 rfl 0 (by decide) (htu _ C_60) (fun _ h9 => h9) rfl dX5_typedRec_30 ?_
    refine lv_iload_n hx hb dX5_typedRec_33 rfl (lv_at hl 2 rfl) ?_
    refine lv_iconst (v := 0) hx hb dX5_typedRec_34 (by decide) ?_
    have hC0 := hC
    refine c_ci (c_runV (As := [.int (nI n9), .int 0]) (rest := [.ref (ga G 4)]) (q0 := 1) (ci := 3) ⟨hx, hb, hml, hown, htu⟩ (tt_partOf l G S_14 N (nI n9) 0 hC tj_19.1 H) (cwV 2 htu hU_X5_144 rfl rfl rfl (by decide +kernel) ⟨show 1 + 1 ≤ 2 * fu + 141 by omega, show 8 + (3 + 11) + 21 ≤ 60 * fu + 6530 by omega⟩) hP hK hD hC hpp cw_1 rfl rfl hl.1 rfl (lv_room (Nat.le_of_ble_eq_true rfl)) dX5_typedRec_35) hS hD hh hpp (fun r_23 S_24 H locs hw_25 hP hD hS hC hh hs_26 hpq => ?_)
    clear hpp
    have hpp := hpq
    clear hpq
    obtain ⟨-, hu9, hw_25⟩ := hw_25
    have hu9 := hu9.symm
    subst hu9
    obtain rfl : r_23 = nI (tr 10 n9) := hw_25.trans ((hE.aw aw_17t (by decide)).part hn (i := 0) (by rw [hp9]; decide))
    refine lv_iload_n hx hb dX5_typedRec_38 rfl (lv_at hl 3 rfl) ?_
    refine lv_iconst (v := 1) hx hb dX5_typedRec_39 (by decide) ?_
    refine lv_iadd hx hb dX5_typedRec_40 ?_
    refine m_top (y := nI (lv + 1)) (nI_add lv 1) ?_
    refine lv_iload_n hx hb dX5_typedRec_41 rfl (lv_at hl 4 rfl) ?_
    refine lv_iconst (v := 1) hx hb dX5_typedRec_42 (by decide) ?_
    refine lv_iadd hx hb dX5_typedRec_43 ?_
    refine m_top (y := nI (dp + 1)) (nI_add dp 1) ?_
    have hC0 := hC
    refine c_ci (c_runV (As := [.int (nI (tr 10 n9)), .int (nI (lv + 1)), .int (nI (dp + 1))]) (rest := []) (q0 := 4) (ci := 5) ⟨hx, hb, hml, hown, htu⟩ (ih l G S_14 ((T + 1)) ((V + 1)) X Y Z q N ((dp + 1)) ((lv + 1)) tr mk rk top ((fun q => q = n9 ∨ gs q)) Y2 ((tr 10 n9)) tm hC us_21 ((by omega)) kk_18 tj_19 ((by omega)) ((by omega)) ((by omega)) ((hE.aw aw_17t (by decide))) ((hO.aw aw_17t (by decide))) hrk ((hE.plt hn (i := 0) (by rw [hp9]; decide))) htp (((aw_17t.1 11 (by decide)).trans h11)) ((Cv.part hcv ((hO n9 hn).2.2.1 0 (by rw [hp9]; decide)) (gi_20yc.2.2.2.2.2.2.2 gi_20z).1 (fun _ => Or.inl rfl))) gi_20yc.1 gi_20yc.2.1 gi_20yc.2.2.1 gi_20yc.2.2.2.1 ((by have := gi_20yc.2.2.2.2.1; omega)) gi_20z gi_20sq gi_2013 gi_20yc.2.2.2.2.2.2.1 ((gi_20yc.2.2.2.2.2.2.2 gi_20z).2) H) (cwV 3 htu hU_X5_77 rfl rfl rfl (by decide +kernel) ⟨show (2 * fu + 140) + 1 ≤ 2 * fu + 141 by omega, show 8 + (5 + 11) + (60 * fu + 6500) ≤ 60 * fu + 6530 by omega⟩) hP hK hD hC hpp cw_4 rfl rfl hl.1 rfl (lv_room (Nat.le_of_ble_eq_true rfl)) dX5_typedRec_44) hS hD hh hpp (fun r_27 S_28 H locs hw_29 hP hD hS hC hh hs_30 hpq => ?_)
    clear hpp
    have hpp := hpq
    clear hpq
    try dsimp only at hw_29
    have aw_31 : AW [6, 7, 8, 9, 16, 14, 10, 11, 12, 13, 17, 18, 23, 24, 25, 26, 35] [8, 9, 10, 12, 13] S_14 S_28 := hw_29.1
    have aw_31t : AW [6, 7, 8, 9, 16, 14, 10, 11, 12, 13, 17, 18, 23, 24, 25, 26, 35] [8, 9, 10, 12, 13] S S_28 := aw_17t.tr (aw_31.mono (by decide) (by decide))
    have kk_32 : kK S_28 15 = 0 := (aw_31.2.1 15 (lt35 (by decide)) (by decide)).2.trans kk_18
    have tj_33 : TJ S_28 N := TJ.aw tj_19 aw_31 (by decide)
    obtain ⟨tx_34A, tx_34E⟩ := hw_29.2
    clear hw_29
    rw [← e3] at tx_34E
    obtain ⟨⟨tx_34t, tx_34gs, tx_34y0⟩, tx_34g, tx_34b⟩ := tx_34E
    have tx_34yc := YC.tr gi_20yc tx_34y0 (show Y ≤ Y by omega) gi_20z
    have nm_35 : nT Y2 ≤ nT Y3.1 := by rw [e3]; exact (x_ty _ _ _ _ _ _).1
    have vl_36 : Y1.2 < nT Y3.1 := Nat.lt_of_lt_of_le vl_22 nm_35
    rcases Nat.eq_zero_or_pos (sto Y3.1) with tx_34z | tx_34z
    · skip
      obtain ⟨tx_34v, tx_34x, tx_3412, tx_3413⟩ := tx_34g tx_34z
      subst tx_34v
      have tx_346 := tx_34yc.1.1.2.2.2.2.2.2.2.1
      have tx_340 : 0 ≤ nI Y3.2 := Int32.not_lt.mp (nI_n0 (by omega))
      obtain ⟨tx_34T, tx_34V, tx_34X, tx_34Z, tx_34q, tx_34u, tx_341, tx_342, tx_343, tx_344⟩ := tx_34A.ok tx_340
      obtain ⟨tx_34tT, tx_34tV, tx_34tB, tx_34tX⟩ := id tx_34u.1.2.1
      have tx_34sq : stp Y3.1 = tx_34q := (nI_eq (by have := tx_34yc.2.2.2.2.1; omega) (by omega)).mp (tx_3412.symm.trans tx_34u.2.1)
      clear tx_34g tx_34b tx_34A
      refine lv_istore (lv' := [(5, .int (nI Y3.2)), (4, .int (nI Y1.2)), (0, .ref (ga G 4)), (1, .int (nI n9)), (2, .int (nI lv)), (3, .int (nI dp))]) hx hb dX5_typedRec_47 hl (by decide) rfl (fun ls hl => ?_)
      refine lv_iload hx hb dX5_typedRec_49 (lv_at hl 0 rfl) ?_
      refine lv_if_ge (tgt := 59) hx hb dX5_typedRec_51 (by decide) (fun c_37 => ?_) (fun c_37 => absurd (Int32.not_lt.mp (nI_n0 (by omega))) c_37)
      refine lv_aload_n hx hb dX5_typedRec_59 rfl (lv_at hl 2 rfl) ?_
      refine lv_iload hx hb dX5_typedRec_60 (lv_at hl 0 rfl) ?_
      refine lv_iload hx hb dX5_typedRec_62 (lv_at hl 1 rfl) ?_
      refine lv_iconst (v := 1) hx hb dX5_typedRec_64 (by decide) ?_
      have ya_38 := yc_askn tx_34yc n9
      have hC0 := hC
      refine c_ci (c_runV (As := [.int (nI Y3.2), .int (nI Y1.2), .int 1]) (rest := []) (q0 := 4) (ci := 5) ⟨hx, hb, hml, hown, htu⟩ ((x_under_all 60) l G S_28 tx_34T tx_34V tx_34X Y tx_34Z tx_34q 1 ((w1 Y3.1 0 5 n9)) Y3.2 Y1.2 tx_34t hC tx_34u ((by omega)) kk_32 ((show 1 + 60 = 61 by decide)) ((by omega)) ya_38.1 ya_38.2.1 ya_38.2.2.1 ya_38.2.2.2.1 ((by have := ya_38.2.2.2.2.1; omega)) tx_34z tx_34sq tx_34x vl_36 H) (cwV 3 htu hU_X5_150 rfl rfl rfl (by decide +kernel) ⟨show (60 + 70) + 1 ≤ 2 * fu + 141 by omega, show 8 + (8 + 11) + (40 * 60 + 3000) ≤ 60 * fu + 6530 by omega⟩) hP hK hD hC hpp cw_4 rfl rfl hl.1 rfl (lv_room (Nat.le_of_ble_eq_true rfl)) dX5_typedRec_65) hS hD hh hpp (fun r_39 S_40 H locs hw_41 hP hD hS hC hh hs_42 hpq => ?_)
      clear hpp
      have hpp := hpq
      clear hpq
      try dsimp only at hw_41
      have aw_43 : AW [6, 7, 8, 9, 16, 14, 10, 11, 12, 13, 17, 18, 25, 26, 35] [8, 9, 10, 12] S_28 S_40 := hw_41.1
      have aw_43t : AW [6, 7, 8, 9, 16, 14, 10, 11, 12, 13, 17, 18, 23, 24, 25, 26, 35] [8, 9, 10, 12, 13] S S_40 := aw_31t.tr (aw_43.mono (by decide) (by decide))
      have kk_44 : kK S_40 15 = 0 := (aw_43.2.1 15 (lt35 (by decide)) (by decide)).2.trans kk_32
      have tj_45 : TJ S_40 N := TJ.aw tj_33 aw_43 (by decide)
      have tx_46e : Y4 = un 60 (w1 Y3.1 0 5 n9) Y3.2 Y1.2 := e4.trans (puts_e tx_34z)
      obtain ⟨tx_46A0, tx_46E⟩ := hw_41.2
      clear hw_41
      have tx_46A := UX.tx tx_46A0
      clear tx_46A0
      rw [← tx_46e] at tx_46E
      obtain ⟨⟨tx_46t, tx_46uc⟩, tx_46M⟩ := tx_46E
      have tx_46yc := yc_under ya_38 tx_46uc aw_43 (by decide) (by rw [tx_46e]; exact k_un _ _ _ _) (by rw [tx_46e]; exact (x_un _ _ _ _).1) (fun _ => tx_34z)
      have nm_47 : nT Y3.1 ≤ nT Y4 := by rw [tx_46e]; exact (x_un 60 (w1 Y3.1 0 5 n9) _ _).1
      have vl_48 : Y1.2 < nT Y4 := Nat.lt_of_lt_of_le vl_36 nm_47
      have vl_49 : Y3.2 < nT Y4 := Nat.lt_of_lt_of_le tx_34x nm_47
      have tx_4613 : S_40.1 13 = -9 := (aw_43.1 13 (by decide)).trans tx_3413
      rcases Nat.eq_zero_or_pos (sto Y4) with tx_46z | tx_46z
      · skip
        obtain ⟨tx_46v, tx_4612⟩ := tx_46M.1 tx_46z
        subst tx_46v
        obtain ⟨tx_46T, tx_46V, tx_46X, tx_46Z, tx_46q, tx_46u, tx_461, tx_462, tx_463, tx_464⟩ := tx_46A.ok (by decide)
        obtain ⟨tx_46tT, tx_46tV, tx_46tB, tx_46tX⟩ := id tx_46u.1.2.1
        have tx_46sq : stp Y4 = tx_46q := (nI_eq (by have := tx_46yc.2.2.2.2.1; omega) (by omega)).mp (tx_4612.symm.trans tx_46u.2.1)
        clear tx_46A tx_46M
        refine lv_istore (lv' := [(6, .int 0), (5, .int (nI Y3.2)), (4, .int (nI Y1.2)), (0, .ref (ga G 4)), (1, .int (nI n9)), (2, .int (nI lv)), (3, .int (nI dp))]) hx hb dX5_typedRec_68 hl (by decide) rfl (fun ls hl => ?_)
        refine lv_iload hx hb dX5_typedRec_70 (lv_at hl 0 rfl) ?_
        refine lv_if_ge (tgt := 78) hx hb dX5_typedRec_72 (by decide) (fun c_50 => ?_) (fun c_50 => absurd (by decide) c_50)
        refine lv_aload_n hx hb dX5_typedRec_78 rfl (lv_at hl 3 rfl) ?_
        refine lv_iload_n hx hb dX5_typedRec_79 rfl (lv_at hl 4 rfl) ?_
        refine lv_iload hx hb dX5_typedRec_80 (lv_at hl 2 rfl) ?_
        refine lv_iload_n hx hb dX5_typedRec_82 rfl (lv_at hl 5 rfl) ?_
        have hC0 := hC
        refine c_cv (c_runV (As := [.int (nI n9), .int (nI Y1.2), .int (nI lv)]) (rest := []) (q0 := 4) (ci := 5) ⟨hx, hb, hml, hown, htu⟩ (xk_gives l G S_40 n9 (nI Y1.2) (nI lv) hC tx_46yc.2.2.2.2.2.2.1.1 tx_46yc.2.2.2.2.2.2.1.2 ((Nat.lt_of_lt_of_le hn hT.1.1)) H) (cwV 3 htu hU_X5_140 rfl rfl rfl (by decide +kernel) ⟨show 1 + 1 ≤ 2 * fu + 141 by omega, show 8 + (4 + 11) + 22 ≤ 60 * fu + 6530 by omega⟩) hP hK hD hC hpp cw_4 rfl rfl hl.1 rfl (lv_room (Nat.le_of_ble_eq_true rfl)) dX5_typedRec_83) hS hD hh hpp (fun S_52 H locs hw_53 hP hD hS hC hh hs_54 hpq => ?_)
        clear hpp
        have hpp := hpq
        clear hpq
        try dsimp only at hw_53
        have aw_55 : AW [23, 24] [] S_40 S_52 := hw_53.1
        have aw_55t : AW [6, 7, 8, 9, 16, 14, 10, 11, 12, 13, 17, 18, 23, 24, 25, 26, 35] [8, 9, 10, 12, 13] S S_52 := aw_43t.tr (aw_55.mono (by decide) (by decide))
        have kk_56 : kK S_52 15 = 0 := (aw_55.2.1 15 (lt35 (by decide)) (by decide)).2.trans kk_44
        have tj_57 : TJ S_52 N := TJ.aw tj_45 aw_55 (by decide)
        obtain ⟨gi_58k, gi_5823, gi_5824⟩ := hw_53.2
        have us_59 := US.aw tx_46u aw_55 (by decide) (by decide)
        have gi_58gc : GC (fun q => q = n9 ∨ tx_34gs q) Y5 S_52 := by rw [e5]; exact gc_sch (tx_46yc.2.2.2.2.2.2.2 tx_46z).2 (Nat.lt_of_lt_of_le hn hT.1.1) gi_5823 gi_5824 rfl vl_48 (by rw [e4]; exact ((k_puts Y3.1 n9 Y3.2 Y1.2 n9).1).trans (by rw [e3]; exact ((kr_ty hrk fu Y2 (tr 10 n9) (lv + 1) ((hrk n9 hn).2 0 (by rw [hp9]; decide)).2) n9 ((hrk n9 hn).2 0 (by rw [hp9]; decide)).1).1.trans (by rw [e2]; show (if n9 = n9 then Y1.2 else Y1.1.1 8 n9) = Y1.2; exact if_pos rfl))) (by omega)
        have gi_58sm : SM Y4 Y5 := (by rw [e5]; exact sm_w _ 9 _ _ (Or.inr (by decide)))
        have gi_58yc := yc_give tx_46yc aw_55 (by decide) (by decide) gi_58k gi_58sm tx_46z (fun q hq => Or.inr hq) gi_58gc
        have gi_58z : sto Y5 = 0 := gi_58sm.st.trans tx_46z
        have gi_58sq : stp Y5 = tx_46q := gi_58sm.sp.trans tx_46sq
        have gi_5813 : S_52.1 13 = -9 := (aw_55.1 13 (by decide)).trans tx_4613
        have vl_60 : Y1.2 < nT Y5 := by rw [gi_58sm.n]; exact vl_48
        have vl_61 : Y3.2 < nT Y5 := by rw [gi_58sm.n]; exact vl_49
        refine lv_aload_n hx hb dX5_typedRec_86 rfl (lv_at hl 3 rfl) ?_
        refine lv_aload_n hx hb dX5_typedRec_87 rfl (lv_at hl 3 rfl) ?_
        refine va_get (D := gD G) (ci := 5) (v := .ref (ga G 1)) (C := RX5) (T := TX5) (N := 15) hx hb htu cu_in5 hown hK hP 4 cw_4 rfl 0 (by decide) (htu _ C_60) (fun _ h9 => h9) rfl dX5_typedRec_88 ?_
        refine lv_iload_n hx hb dX5_typedRec_91 rfl (lv_at hl 4 rfl) ?_
        refine lv_iconst (v := 1) hx hb dX5_typedRec_92 (by decide) ?_
        have hC0 := hC
        refine c_ci (c_runV (As := [.int (nI n9), .int 1]) (rest := [.ref (ga G 4)]) (q0 := 1) (ci := 3) ⟨hx, hb, hml, hown, htu⟩ (tt_partOf l G S_52 N (nI n9) 1 hC tj_57.1 H) (cwV 2 htu hU_X5_144 rfl rfl rfl (by decide +kernel) ⟨show 1 + 1 ≤ 2 * fu + 141 by omega, show 8 + (3 + 11) + 21 ≤ 60 * fu + 6530 by omega⟩) hP hK hD hC hpp cw_1 rfl rfl hl.1 rfl (lv_room (Nat.le_of_ble_eq_true rfl)) dX5_typedRec_93) hS hD hh hpp (fun r_62 S_63 H locs hw_64 hP hD hS hC hh hs_65 hpq => ?_)
        clear hpp
        have hpp := hpq
        clear hpq
        obtain ⟨-, hu9, hw_64⟩ := hw_64
        have hu9 := hu9.symm
        subst hu9
        obtain rfl : r_62 = nI (tr 11 n9) := hw_64.trans ((hE.aw aw_55t (by decide)).part hn (i := 1) (by rw [hp9]; decide))
        refine lv_iload_n hx hb dX5_typedRec_96 rfl (lv_at hl 5 rfl) ?_
        refine lv_iload_n hx hb dX5_typedRec_97 rfl (lv_at hl 6 rfl) ?_
        refine lv_iconst (v := 1) hx hb dX5_typedRec_98 (by decide) ?_
        refine lv_iadd hx hb dX5_typedRec_99 ?_
        refine m_top (y := nI (dp + 1)) (nI_add dp 1) ?_
        have hC0 := hC
        refine c_ci (c_runV (As := [.int (nI (tr 11 n9)), .int (nI lv), .int (nI (dp + 1))]) (rest := []) (q0 := 4) (ci := 5) ⟨hx, hb, hml, hown, htu⟩ (ih l G S_52 tx_46T tx_46V tx_46X Y tx_46Z tx_46q N ((dp + 1)) lv tr mk rk top ((fun q => q = n9 ∨ tx_34gs q)) Y5 ((tr 11 n9)) tx_46t hC us_59 ((by omega)) kk_56 tj_57 ((by omega)) ((by omega)) ((by omega)) ((hE.aw aw_55t (by decide))) ((hO.aw aw_55t (by decide))) hrk ((hE.plt hn (i := 1) (by rw [hp9]; decide))) htp (((aw_55t.1 11 (by decide)).trans h11)) ((Cv.part hcv ((hO n9 hn).2.2.1 1 (by rw [hp9]; decide)) (gi_58yc.2.2.2.2.2.2.2 gi_58z).1 (fun _ => Or.inl rfl))) gi_58yc.1 gi_58yc.2.1 gi_58yc.2.2.1 gi_58yc.2.2.2.1 ((by have := gi_58yc.2.2.2.2.1; omega)) gi_58z gi_58sq gi_5813 gi_58yc.2.2.2.2.2.2.1 ((gi_58yc.2.2.2.2.2.2.2 gi_58z).2) H) (cwV 3 htu hU_X5_77 rfl rfl rfl (by decide +kernel) ⟨show (2 * fu + 140) + 1 ≤ 2 * fu + 141 by omega, show 8 + (5 + 11) + (60 * fu + 6500) ≤ 60 * fu + 6530 by omega⟩) hP hK hD hC hpp cw_4 rfl rfl hl.1 rfl (lv_room (Nat.le_of_ble_eq_true rfl)) dX5_typedRec_100) hS hD hh hpp (fun r_66 S_67 H locs hw_68 hP hD hS hC hh hs_69 hpq => ?_)
        clear hpp
        have hpp := hpq
        clear hpq
        try dsimp only at hw_68
        have aw_70 : AW [6, 7, 8, 9, 16, 14, 10, 11, 12, 13, 17, 18, 23, 24, 25, 26, 35] [8, 9, 10, 12, 13] S_52 S_67 := hw_68.1
        have aw_70t : AW [6, 7, 8, 9, 16, 14, 10, 11, 12, 13, 17, 18, 23, 24, 25, 26, 35] [8, 9, 10, 12, 13] S S_67 := aw_55t.tr (aw_70.mono (by decide) (by decide))
        have kk_71 : kK S_67 15 = 0 := (aw_70.2.1 15 (lt35 (by decide)) (by decide)).2.trans kk_56
        have tj_72 : TJ S_67 N := TJ.aw tj_57 aw_70 (by decide)
        obtain ⟨tx_73A, tx_73E⟩ := hw_68.2
        clear hw_68
        rw [← e6] at tx_73E
        obtain ⟨⟨tx_73t, tx_73gs, tx_73y0⟩, tx_73g, tx_73b⟩ := tx_73E
        have tx_73yc := YC.tr gi_58yc tx_73y0 (show Y ≤ Y by omega) gi_58z
        have nm_74 : nT Y5 ≤ nT Y6.1 := by rw [e6]; exact (x_ty _ _ _ _ _ _).1
        have vl_75 : Y1.2 < nT Y6.1 := Nat.lt_of_lt_of_le vl_60 nm_74
        have vl_76 : Y3.2 < nT Y6.1 := Nat.lt_of_lt_of_le vl_61 nm_74
        rcases Nat.eq_zero_or_pos (sto Y6.1) with tx_73z | tx_73z
        · skip
          obtain ⟨tx_73v, tx_73x, tx_7312, tx_7313⟩ := tx_73g tx_73z
          subst tx_73v
          have tx_736 := tx_73yc.1.1.2.2.2.2.2.2.2.1
          have tx_730 : 0 ≤ nI Y6.2 := Int32.not_lt.mp (nI_n0 (by omega))
          obtain ⟨tx_73T, tx_73V, tx_73X, tx_73Z, tx_73q, tx_73u, tx_731, tx_732, tx_733, tx_734⟩ := tx_73A.ok tx_730
          obtain ⟨tx_73tT, tx_73tV, tx_73tB, tx_73tX⟩ := id tx_73u.1.2.1
          have tx_73sq : stp Y6.1 = tx_73q := (nI_eq (by have := tx_73yc.2.2.2.2.1; omega) (by omega)).mp (tx_7312.symm.trans tx_73u.2.1)
          clear tx_73g tx_73b tx_73A
          exact c_iret (v := nI Y6.2) hx hb hr hK hP hD hS hC hh hpp ⟨aw_70t, ⟨US.tx tx_73u (by omega) _, yf_good (YC.cm tx_73yc (by omega)) tx_73z rfl tx_73x (tx_73u.2.1.trans (by rw [tx_73sq])) tx_7313 er⟩⟩ dX5_typedRec_103 hlocks
        · skip
          have tx_73zz : sto Y6.1 ≠ 0 := Nat.ne_of_gt tx_73z
          obtain ⟨tx_73v, tx_73p⟩ := tx_73b tx_73zz
          have tx_73nn : ¬ 0 ≤ r_66 := Int32.not_le.mpr (by rw [tx_73v]; exact sc_neg tx_73zz)
          clear tx_73g tx_73b
          exact c_iret (v := r_66) hx hb hr hK hP hD hS hC hh hpp ⟨aw_70t, ⟨(TX.bad tx_73A (by omega) (Int32.not_le.mp tx_73nn)), yf_bad (YC.cm tx_73yc (by omega)) tx_73zz SM.rf tx_73v (Or.inl tx_73p) er⟩⟩ dX5_typedRec_103 hlocks
      · skip
        have tx_46zz : sto Y4 ≠ 0 := Nat.ne_of_gt tx_46z
        have tx_46v := tx_46M.2 tx_46zz
        have tx_46nn : ¬ 0 ≤ r_39 := Int32.not_le.mpr (by rw [tx_46v]; exact sc_neg tx_46zz)
        clear tx_46M
        refine lv_istore (lv' := [(6, .int r_39), (5, .int (nI Y3.2)), (4, .int (nI Y1.2)), (0, .ref (ga G 4)), (1, .int (nI n9)), (2, .int (nI lv)), (3, .int (nI dp))]) hx hb dX5_typedRec_68 hl (by decide) rfl (fun ls hl => ?_)
        refine lv_iload hx hb dX5_typedRec_70 (lv_at hl 0 rfl) ?_
        refine lv_if_ge (tgt := 78) hx hb dX5_typedRec_72 (by decide) (fun c_78 => absurd c_78 tx_46nn) (fun c_78 => ?_)
        refine lv_iload hx hb dX5_typedRec_75 (lv_at hl 0 rfl) ?_
        have sm_79_4 : SM Y4 Y5 := by rw [e5]; exact (sm_w _ 9 _ _ (Or.inr (by decide)))
        have sm_79_4h : sto Y5 ≠ 0 := sm_79_4.ne tx_46zz
        have sm_79_5 : SM Y5 Y6.1 := by rw [e6]; exact (sm_ty sm_79_4h)
        have sm_79_5h : sto Y6.1 ≠ 0 := sm_79_5.ne sm_79_4h
        exact c_iret (v := r_39) hx hb hr hK hP hD hS hC hh hpp ⟨aw_43t, ⟨(TX.bad tx_46A (by omega) (Int32.not_le.mp tx_46nn)), yf_bad (YC.cm tx_46yc (by omega)) tx_46zz (sm_79_4.tr sm_79_5) tx_46v (pl_wh (by rw [tx_46e]; exact wh_un 60 _ _ _) tx_34z tx_46zz tx_4613) er⟩⟩ dX5_typedRec_77 hlocks
    · skip
      have tx_34zz : sto Y3.1 ≠ 0 := Nat.ne_of_gt tx_34z
      obtain ⟨tx_34v, tx_34p⟩ := tx_34b tx_34zz
      have tx_34nn : ¬ 0 ≤ r_27 := Int32.not_le.mpr (by rw [tx_34v]; exact sc_neg tx_34zz)
      clear tx_34g tx_34b
      refine lv_istore (lv' := [(5, .int r_27), (4, .int (nI Y1.2)), (0, .ref (ga G 4)), (1, .int (nI n9)), (2, .int (nI lv)), (3, .int (nI dp))]) hx hb dX5_typedRec_47 hl (by decide) rfl (fun ls hl => ?_)
      refine lv_iload hx hb dX5_typedRec_49 (lv_at hl 0 rfl) ?_
      refine lv_if_ge (tgt := 59) hx hb dX5_typedRec_51 (by decide) (fun c_80 => absurd c_80 tx_34nn) (fun c_80 => ?_)
      refine lv_iload hx hb dX5_typedRec_54 (lv_at hl 0 rfl) ?_
      refine lv_goto (tgt := 68) hx hb dX5_typedRec_56 (by decide) ?_
      refine lv_istore (lv' := [(6, .int r_27), (5, .int r_27), (4, .int (nI Y1.2)), (0, .ref (ga G 4)), (1, .int (nI n9)), (2, .int (nI lv)), (3, .int (nI dp))]) hx hb dX5_typedRec_68 hl (by decide) rfl (fun ls hl => ?_)
      refine lv_iload hx hb dX5_typedRec_70 (lv_at hl 0 rfl) ?_
      refine lv_if_ge (tgt := 78) hx hb dX5_typedRec_72 (by decide) (fun c_81 => absurd c_81 tx_34nn) (fun c_81 => ?_)
      refine lv_iload hx hb dX5_typedRec_75 (lv_at hl 0 rfl) ?_
      have sm_82_3 : SM Y3.1 Y4 := by rw [e4]; exact (sm_puts _ _ _ tx_34zz)
      have sm_82_3h : sto Y4 ≠ 0 := sm_82_3.ne tx_34zz
      have sm_82_4 : SM Y4 Y5 := by rw [e5]; exact (sm_w _ 9 _ _ (Or.inr (by decide)))
      have sm_82_4h : sto Y5 ≠ 0 := sm_82_4.ne sm_82_3h
      have sm_82_5 : SM Y5 Y6.1 := by rw [e6]; exact (sm_ty sm_82_4h)
      have sm_82_5h : sto Y6.1 ≠ 0 := sm_82_5.ne sm_82_4h
      exact c_iret (v := r_27) hx hb hr hK hP hD hS hC hh hpp ⟨aw_31t, ⟨(TX.bad tx_34A (by omega) (Int32.not_le.mp tx_34nn)), yf_bad (YC.cm tx_34yc (by omega)) tx_34zz ((sm_82_3.tr sm_82_4).tr sm_82_5) tx_34v (Or.inl tx_34p) er⟩⟩ dX5_typedRec_77 hlocks

set_option maxHeartbeats 4000000 in
set_option maxRecDepth 100000 in
/-- typedPick -/
theorem x_typedPick (l : Launch) (G : cG) (S : cS) (fu : Nat) (T : Nat) (V : Nat) (X : Nat) (Y : Nat) (Z : Nat) (q : Nat) (N : Nat) (dp : Nat) (lv : Nat) (tr : aM) (mk : Nat → Int32) (rk : Nat → Nat) (top : Nat) (gs : Nat → Prop) (z : aS) (n9 : Nat) (tm : Nat) (hC : CL S) (ih : xTypedAt fu) (hU : US S T V X Y Z q) (hq : q ≤ 1500) (h15 : kK S 15 = 0) (hT : TJ S N) (hdp : dp + (fu + 1) = 61) (hlv : lv ≤ dp) (hY2 : Y + (6 * (fu + 1) + 372) ≤ 900) (hE : TC S tr mk N) (hO : TO S tr N) (hrk : RKs tr rk N) (hn : n9 < N) (htp : top < N) (h11 : S.1 11 = nI top) (hcv : ∀ j, Cv gs tr top j n9) (hz : KT S z) (hkq : KQ S z) (hm0 : KM0 S tm) (h8 : S.1 8 = nI tm) (htm : tm + 1501 + cntT tr ((fu + 1)) n9 ≤ 2 ^ 29 + stp z) (h0 : sto z = 0) (hzq : stp z = q) (h13 : S.1 13 = -9) (hk2 : kK S 23 = 120 ∧ kK S 24 = 120) (hgc : GC gs z S) (hkd : tr 0 n9 = 9) (Hs : Heap) : Met l yX5_typedPick (wC yX5_typedPick cX5_typedPick 9 (some .int)) (cRm S (2 * fu + 141) (60 * fu + 6530)) (cPc G S Hs [.ref (ga G 4), .int (nI n9), .int (nI lv), .int (nI dp)]) (cQi G S Hs (fun v u => AW [6, 7, 8, 9, 16, 14, 10, 11, 12, 13, 17, 18, 23, 24, 25, 26, 35] [8, 9, 10, 12, 13] S u ∧ (TX u T V Y q (6 * (fu + 1) + 372) v ∧ YF S u Y tm (cntT tr (fu + 1) n9) gs n9 z (ty tr top (fu + 1) z n9 lv) v))) (CC - PT S) (12 * (CC - PT S)) (cA G S Hs.size) := by
  refine Met.ofW (cc := cX5_typedPick) (maxL := 9) (ret := (some .int)) (by decide) rfl ?_
  intro p e s m args below meth c s₁ B hml hv
  obtain ⟨rfl, hsz, hP, hK, hD0, -⟩ := hv
  have hx := B.exec
  have hb := B.bytes
  have hr := B.returns
  have htu : ∀ w ∈ CU, w.before _ s = true := fun w h => atoms_spec (ws := (wC yX5_typedPick cX5_typedPick 9 (some .int))) B.pre w (List.mem_cons_of_mem _ h)
  have hown : s.vm.findClass RX5 = some m.cls := findClass_of_methodNamed B.named
  have hlocks := B.notSynchronized
  subst hsz
  have hD : cD (cA G S s.heap.size) G S := cD_self hD0
  have hl := lv_entry ([.ref (ga G 4), .int (nI n9), .int (nI lv), .int (nI dp)]) (n := 9) (Nat.le_of_ble_eq_true rfl)
  rw [lg_entry_eq]
  generalize (lg_sl ([.ref (ga G 4), .int (nI n9), .int (nI lv), .int (nI dp)]) ++ List.replicate (9 - (lg_sl ([.ref (ga G 4), .int (nI n9), .int (nI lv), .int (nI dp)])).length) Slot.unset).toArray = ls at hl ⊢
  have hl : lv_has ls 9 [(0, .ref (ga G 4)), (1, .int (nI n9)), (2, .int (nI lv)), (3, .int (nI dp))] := hl
  obtain ⟨H, hHe⟩ : ∃ H : Heap, H = s.heap := ⟨_, rfl⟩
  rw [← hHe] at hP
  have hS : va_S (cA G S s.heap.size) s.heap H [] := by rw [hHe]; exact va_S.rf
  have hh : HS S S := HS.rf
  have hpp : PT S ≤ PT S := Nat.le_refl _
  have hB9 := hC.1
  refine W.heq hHe ?_
  refine c_ent (S := S) ?_
  obtain ⟨tT, tV, tB, tX⟩ := id hU.1.2.1
  have yc0 : YC S S Y tm 0 gs z z tm gs := ⟨hz, hkq, hm0, h8, ⟨Nat.le_refl _, Nat.le_refl _, by omega⟩, fun _ _ => ⟨rfl, rfl⟩, hk2, fun _ => ⟨fun _ h => h, hgc⟩⟩
  have hp9 : prts (tr 0 n9) (tr 2 n9) = 3 := by rw [hkd]; rfl
  obtain ⟨Y1, Y2, Y3, Y4, Y5, Y6, Y7, e1, e2, e3, e4, e5, e6, e7, er⟩ := ty_9 (top := top) (k := fu) (l := lv) h0 hkd
  have hct := cnt_3 (tr := tr) (k := fu) (n := n9) hp9
  refine lv_aload_n hx hb dX5_typedPick_0 rfl (lv_at hl 0 rfl) ?_
  refine lv_aload_n hx hb dX5_typedPick_1 rfl (lv_at hl 0 rfl) ?_
  refine va_get (D := gD G) (ci := 5) (v := .ref (ga G 1)) (C := RX5) (T := TX5) (N := 15) hx hb htu cu_in5 hown hK hP 4 cw_4 rfl 0 (by decide) (htu _ C_60) (fun _ h9 => h9) rfl dX5_typedPick_2 ?_
  refine lv_iload_n hx hb dX5_typedPick_5 rfl (lv_at hl 1 rfl) ?_
  refine lv_iconst (v := 0) hx hb dX5_typedPick_6 (by decide) ?_
  have hC0 := hC
  refine c_ci (c_runV (As := [.int (nI n9), .int 0]) (rest := [.ref (ga G 4)]) (q0 := 1) (ci := 3) ⟨hx, hb, hml, hown, htu⟩ (tt_partOf l G S N (nI n9) 0 hC hT.1 H) (cwV 2 htu hU_X5_144 rfl rfl rfl (by decide +kernel) ⟨show 1 + 1 ≤ 2 * fu + 141 by omega, show 8 + (3 + 11) + 21 ≤ 60 * fu + 6530 by omega⟩) hP hK hD hC hpp cw_1 rfl rfl hl.1 rfl (lv_room (Nat.le_of_ble_eq_true rfl)) dX5_typedPick_7) hS hD hh hpp (fun r_1 S_2 H locs hw_3 hP hD hS hC hh hs_4 hpq => ?_)
  clear hpp
  have hpp := hpq
  clear hpq
  obtain ⟨-, hu9, hw_3⟩ := hw_3
  have hu9 := hu9.symm
  subst hu9
  obtain rfl : r_1 = nI (tr 10 n9) := hw_3.trans ((hE.aw (AW.rf (rs := []) (is := [])) (by decide)).part hn (i := 0) (by rw [hp9]; decide))
  refine lv_iload_n hx hb dX5_typedPick_10 rfl (lv_at hl 2 rfl) ?_
  refine lv_iload_n hx hb dX5_typedPick_11 rfl (lv_at hl 3 rfl) ?_
  refine lv_iconst (v := 1) hx hb dX5_typedPick_12 (by decide) ?_
  refine lv_iadd hx hb dX5_typedPick_13 ?_
  refine m_top (y := nI (dp + 1)) (nI_add dp 1) ?_
  have hC0 := hC
  refine c_ci (c_runV (As := [.int (nI (tr 10 n9)), .int (nI lv), .int (nI (dp + 1))]) (rest := []) (q0 := 4) (ci := 5) ⟨hx, hb, hml, hown, htu⟩ (ih l G S T V X Y Z q N ((dp + 1)) lv tr mk rk top gs z ((tr 10 n9)) tm hC hU ((by omega)) h15 hT ((by omega)) ((by omega)) ((by omega)) ((hE.aw (AW.rf (rs := []) (is := [])) (by decide))) ((hO.aw (AW.rf (rs := []) (is := [])) (by decide))) hrk ((hE.plt hn (i := 0) (by rw [hp9]; decide))) htp ((((AW.rf (rs := []) (is := [])).1 11 (by decide)).trans h11)) ((Cv.part hcv ((hO n9 hn).2.2.1 0 (by rw [hp9]; decide)) (yc0.2.2.2.2.2.2.2 h0).1 (fun h => by unfold covers at h; omega))) yc0.1 yc0.2.1 yc0.2.2.1 yc0.2.2.2.1 ((by have := yc0.2.2.2.2.1; omega)) h0 hzq h13 yc0.2.2.2.2.2.2.1 ((yc0.2.2.2.2.2.2.2 h0).2) H) (cwV 3 htu hU_X5_77 rfl rfl rfl (by decide +kernel) ⟨show (2 * fu + 140) + 1 ≤ 2 * fu + 141 by omega, show 8 + (5 + 11) + (60 * fu + 6500) ≤ 60 * fu + 6530 by omega⟩) hP hK hD hC hpp cw_4 rfl rfl hl.1 rfl (lv_room (Nat.le_of_ble_eq_true rfl)) dX5_typedPick_14) hS hD hh hpp (fun r_5 S_6 H locs hw_7 hP hD hS hC hh hs_8 hpq => ?_)
  clear hpp
  have hpp := hpq
  clear hpq
  try dsimp only at hw_7
  have aw_9 : AW [6, 7, 8, 9, 16, 14, 10, 11, 12, 13, 17, 18, 23, 24, 25, 26, 35] [8, 9, 10, 12, 13] S S_6 := hw_7.1
  have aw_9t : AW [6, 7, 8, 9, 16, 14, 10, 11, 12, 13, 17, 18, 23, 24, 25, 26, 35] [8, 9, 10, 12, 13] S S_6 := AW.rf.tr (aw_9.mono (by decide) (by decide))
  have kk_10 : kK S_6 15 = 0 := (aw_9.2.1 15 (lt35 (by decide)) (by decide)).2.trans h15
  have tj_11 : TJ S_6 N := TJ.aw hT aw_9 (by decide)
  obtain ⟨tx_12A, tx_12E⟩ := hw_7.2
  clear hw_7
  rw [← e1] at tx_12E
  obtain ⟨⟨tx_12t, tx_12gs, tx_12y0⟩, tx_12g, tx_12b⟩ := tx_12E
  have tx_12yc := YC.tr yc0 tx_12y0 (show Y ≤ Y by omega) h0
  have nm_13 : nT z ≤ nT Y1.1 := by rw [e1]; exact (x_ty _ _ _ _ _ _).1
  rcases Nat.eq_zero_or_pos (sto Y1.1) with tx_12z | tx_12z
  · skip
    obtain ⟨tx_12v, tx_12x, tx_1212, tx_1213⟩ := tx_12g tx_12z
    subst tx_12v
    have tx_126 := tx_12yc.1.1.2.2.2.2.2.2.2.1
    have tx_120 : 0 ≤ nI Y1.2 := Int32.not_lt.mp (nI_n0 (by omega))
    obtain ⟨tx_12T, tx_12V, tx_12X, tx_12Z, tx_12q, tx_12u, tx_121, tx_122, tx_123, tx_124⟩ := tx_12A.ok tx_120
    obtain ⟨tx_12tT, tx_12tV, tx_12tB, tx_12tX⟩ := id tx_12u.1.2.1
    have tx_12sq : stp Y1.1 = tx_12q := (nI_eq (by have := tx_12yc.2.2.2.2.1; omega) (by omega)).mp (tx_1212.symm.trans tx_12u.2.1)
    clear tx_12g tx_12b tx_12A
    refine lv_istore (lv' := [(4, .int (nI Y1.2)), (0, .ref (ga G 4)), (1, .int (nI n9)), (2, .int (nI lv)), (3, .int (nI dp))]) hx hb dX5_typedPick_17 hl (by decide) rfl (fun ls hl => ?_)
    refine lv_iload hx hb dX5_typedPick_19 (lv_at hl 0 rfl) ?_
    refine lv_if_ge (tgt := 29) hx hb dX5_typedPick_21 (by decide) (fun c_14 => ?_) (fun c_14 => absurd (Int32.not_lt.mp (nI_n0 (by omega))) c_14)
    refine lv_aload_n hx hb dX5_typedPick_29 rfl (lv_at hl 1 rfl) ?_
    refine lv_iload hx hb dX5_typedPick_30 (lv_at hl 0 rfl) ?_
    refine lv_iconst (v := 1) hx hb dX5_typedPick_32 (by decide) ?_
    refine lv_iconst (v := 1) hx hb dX5_typedPick_33 (by decide) ?_
    have ya_15 := yc_askn tx_12yc n9
    have hC0 := hC
    refine c_ci (c_runV (As := [.int (nI Y1.2), .int 1, .int 1]) (rest := []) (q0 := 4) (ci := 5) ⟨hx, hb, hml, hown, htu⟩ ((x_under_all 60) l G S_6 tx_12T tx_12V tx_12X Y tx_12Z tx_12q 1 ((w1 Y1.1 0 5 n9)) Y1.2 1 tx_12t hC tx_12u ((by omega)) kk_10 ((show 1 + 60 = 61 by decide)) ((by omega)) ya_15.1 ya_15.2.1 ya_15.2.2.1 ya_15.2.2.2.1 ((by have := ya_15.2.2.2.2.1; omega)) tx_12z tx_12sq tx_12x ((Nat.lt_of_lt_of_le (by decide) tx_12yc.1.1.2.2.2.2.2.2.2.2.2.1)) H) (cwV 3 htu hU_X5_150 rfl rfl rfl (by decide +kernel) ⟨show (60 + 70) + 1 ≤ 2 * fu + 141 by omega, show 8 + (8 + 11) + (40 * 60 + 3000) ≤ 60 * fu + 6530 by omega⟩) hP hK hD hC hpp cw_4 rfl rfl hl.1 rfl (lv_room (Nat.le_of_ble_eq_true rfl)) dX5_typedPick_34) hS hD hh hpp (fun r_16 S_17 H locs hw_18 hP hD hS hC hh hs_19 hpq => ?_)
    clear hpp
    have hpp := hpq
    clear hpq
    try dsimp only at hw_18
    have aw_20 : AW [6, 7, 8, 9, 16, 14, 10, 11, 12, 13, 17, 18, 25, 26, 35] [8, 9, 10, 12] S_6 S_17 := hw_18.1
    have aw_20t : AW [6, 7, 8, 9, 16, 14, 10, 11, 12, 13, 17, 18, 23, 24, 25, 26, 35] [8, 9, 10, 12, 13] S S_17 := aw_9t.tr (aw_20.mono (by decide) (by decide))
    have kk_21 : kK S_17 15 = 0 := (aw_20.2.1 15 (lt35 (by decide)) (by decide)).2.trans kk_10
    have tj_22 : TJ S_17 N := TJ.aw tj_11 aw_20 (by decide)
    have tx_23e : Y2 = un 60 (w1 Y1.1 0 5 n9) Y1.2 1 := e2.trans (puts_e tx_12z)
    obtain ⟨tx_23A0, tx_23E⟩ := hw_18.2
    clear hw_18
    have tx_23A := UX.tx tx_23A0
    clear tx_23A0
    rw [← tx_23e] at tx_23E
    obtain ⟨⟨tx_23t, tx_23uc⟩, tx_23M⟩ := tx_23E
    have tx_23yc := yc_under ya_15 tx_23uc aw_20 (by decide) (by rw [tx_23e]; exact k_un _ _ _ _) (by rw [tx_23e]; exact (x_un _ _ _ _).1) (fun _ => tx_12z)
    have nm_24 : nT Y1.1 ≤ nT Y2 := by rw [tx_23e]; exact (x_un 60 (w1 Y1.1 0 5 n9) _ _).1
    have vl_25 : Y1.2 < nT Y2 := Nat.lt_of_lt_of_le tx_12x nm_24
    have tx_2313 : S_17.1 13 = -9 := (aw_20.1 13 (by decide)).trans tx_1213
    rcases Nat.eq_zero_or_pos (sto Y2) with tx_23z | tx_23z
    · skip
      obtain ⟨tx_23v, tx_2312⟩ := tx_23M.1 tx_23z
      subst tx_23v
      obtain ⟨tx_23T, tx_23V, tx_23X, tx_23Z, tx_23q, tx_23u, tx_231, tx_232, tx_233, tx_234⟩ := tx_23A.ok (by decide)
      obtain ⟨tx_23tT, tx_23tV, tx_23tB, tx_23tX⟩ := id tx_23u.1.2.1
      have tx_23sq : stp Y2 = tx_23q := (nI_eq (by have := tx_23yc.2.2.2.2.1; omega) (by omega)).mp (tx_2312.symm.trans tx_23u.2.1)
      clear tx_23A tx_23M
      refine lv_istore (lv' := [(5, .int 0), (4, .int (nI Y1.2)), (0, .ref (ga G 4)), (1, .int (nI n9)), (2, .int (nI lv)), (3, .int (nI dp))]) hx hb dX5_typedPick_37 hl (by decide) rfl (fun ls hl => ?_)
      refine lv_iload hx hb dX5_typedPick_39 (lv_at hl 0 rfl) ?_
      refine lv_if_ge (tgt := 47) hx hb dX5_typedPick_41 (by decide) (fun c_26 => ?_) (fun c_26 => absurd (by decide) c_26)
      refine lv_aload_n hx hb dX5_typedPick_47 rfl (lv_at hl 2 rfl) ?_
      refine va_get (D := gD G) (ci := 5) (v := .ref (ga G 2)) (C := RX5) (T := TX5) (N := 15) hx hb htu cu_in5 hown hK hP 4 cw_4 rfl 1 (by decide) (htu _ C_45) (fun _ h9 => h9) rfl dX5_typedPick_48 ?_
      refine lv_iload_n hx hb dX5_typedPick_51 rfl (lv_at hl 4 rfl) ?_
      have ya_27 := yc_askn tx_23yc n9
      have ya_27T : nT Y2 = tx_23T := tx_23yc.1.1.1.symm.trans tx_23u.1.1.1
      have hC0 := hC
      refine c_ci (c_runV (As := [.int (nI lv)]) (rest := []) (q0 := 2) (ci := 4) ⟨hx, hb, hml, hown, htu⟩ (x_addVariable l G S_17 tx_23T tx_23V tx_23V tx_23X Y tx_23Z ((w1 Y2 0 5 n9)) lv hC tx_23u.1 rfl ya_27.1 ((by omega)) H) (cwV 1 htu hU_X5_137 rfl rfl rfl (by decide +kernel) ⟨show 4 + 1 ≤ 2 * fu + 141 by omega, show 8 + (4 + 11) + 128 ≤ 60 * fu + 6530 by omega⟩) hP hK hD hC hpp cw_2 rfl rfl hl.1 rfl (lv_room (Nat.le_of_ble_eq_true rfl)) dX5_typedPick_52) hS hD hh hpp (fun r_28 S_29 H locs hw_30 hP hD hS hC hh hs_31 hpq => ?_)
      clear hpp
      have hpp := hpq
      clear hpq
      try dsimp only at hw_30
      have aw_32 : AW [6, 7, 8, 9, 16, 14, 35] [] S_17 S_29 := hw_30.1
      have aw_32t : AW [6, 7, 8, 9, 16, 14, 10, 11, 12, 13, 17, 18, 23, 24, 25, 26, 35] [8, 9, 10, 12, 13] S S_29 := aw_20t.tr (aw_32.mono (by decide) (by decide))
      have kk_33 : kK S_29 15 = 0 := (aw_32.2.1 15 (lt35 (by decide)) (by decide)).2.trans kk_21
      have tj_34 : TJ S_29 N := TJ.aw tj_22 aw_32 (by decide)
      have hw_309 := hw_30.2
      clear hw_30
      rcases hw_309 with ⟨ty_35v, ty_35s, ty_35f⟩ | ⟨ty_35v, ty_35t, ty_35, ty_35o, ty_354, ty_358, ⟨ty_35q, ty_35w, ty_35x, ty_35y⟩, ⟨ty_35150, ty_35kt⟩, ty_35l⟩
      · skip
        subst ty_35v
        have ty_35Y : Y3 = (stops (w1 Y2 0 5 n9) 1 n9, 0) := e3.trans (fresh_f tx_23z ty_35f)
        have ty_35yc : YC S S_29 Y tm (0 + cntT tr fu (tr 10 n9)) gs z Y3.1 tx_23t tx_12gs := by rw [ty_35Y, ty_35s]; exact yc_stops ya_27 1 n9 (by decide) tx_23z
        have ty_35st : sto Y3.1 = 1 := by rw [ty_35Y]; exact sto_sp9 (s := w1 Y2 0 5 n9) tx_23z
        have ty_35zz : sto Y3.1 ≠ 0 := by rw [ty_35st]; decide
        have ty_35hv : (-6 : Int32) = sc (sto Y3.1) := by rw [ty_35st]; rfl
        have ty_35pl : PL S_29 Y3.1 n9 := by rw [ty_35Y, ty_35s]; exact pl_stops (w := w1 Y2 0 5 n9) tx_23z tx_2313
        have ty_35tx : TX S_29 T V Y q (6 * (fu + 1) + 372) (-6) := by rw [ty_35s]; exact US.txb tx_23u (by omega) (by omega) (by decide)
        refine lv_istore (lv' := [(6, .int ((-6))), (5, .int 0), (4, .int (nI Y1.2)), (0, .ref (ga G 4)), (1, .int (nI n9)), (2, .int (nI lv)), (3, .int (nI dp))]) hx hb dX5_typedPick_55 hl (by decide) rfl (fun ls hl => ?_)
        refine lv_iload hx hb dX5_typedPick_57 (lv_at hl 0 rfl) ?_
        refine lv_if_ge (tgt := 65) hx hb dX5_typedPick_59 (by decide) (fun c_36 => absurd c_36 (by decide)) (fun c_36 => ?_)
        refine lv_iload hx hb dX5_typedPick_62 (lv_at hl 0 rfl) ?_
        have sm_37_3 : SM Y3.1 Y4.1 := by rw [e4]; exact (sm_ty ty_35zz)
        have sm_37_3h : sto Y4.1 ≠ 0 := sm_37_3.ne ty_35zz
        have sm_37_4 : SM Y4.1 Y5 := by rw [e5]; exact (sm_puts _ _ _ sm_37_3h)
        have sm_37_4h : sto Y5 ≠ 0 := sm_37_4.ne sm_37_3h
        have sm_37_5 : SM Y5 Y6.1 := by rw [e6]; exact (sm_ty sm_37_4h)
        have sm_37_5h : sto Y6.1 ≠ 0 := sm_37_5.ne sm_37_4h
        have sm_37_6 : SM Y6.1 Y7 := by rw [e7]; exact (sm_puts _ _ _ sm_37_5h)
        have sm_37_6h : sto Y7 ≠ 0 := sm_37_6.ne sm_37_5h
        exact c_iret (v := (-6)) hx hb hr hK hP hD hS hC hh hpp ⟨aw_32t, ⟨ty_35tx, yf_bad (YC.cm ty_35yc (by omega)) ty_35zz (((sm_37_3.tr sm_37_4).tr sm_37_5).tr sm_37_6) ty_35hv ty_35pl er⟩⟩ dX5_typedPick_64 hlocks
      · skip
        have ty_35us := US.var tx_23u ty_35 aw_32 (by decide) ty_35w ty_35x ty_35y
        obtain ⟨ty_35ut, ty_35uv, ty_35ub, ty_35ux⟩ := id ty_35us.1.2.1
        have ty_35Y : Y3 = (newV (w1 Y2 0 5 n9) lv, nT Y2) := e3.trans (fresh_e tx_23z ty_35150 (by rw [ya_27T]; exact Nat.ne_of_lt ty_35t))
        have ty_35kq := kq_var (l := lv) ya_27.2.1 aw_32 (by rw [show nT (w1 Y2 0 5 n9) = tx_23T from ya_27T]; exact ty_35l) (ty_35.1.2.2.2.2.1.trans (by rw [show nT (w1 Y2 0 5 n9) = tx_23T from ya_27T]))
        have ty_35yc : YC S S_29 Y tm (0 + cntT tr fu (tr 10 n9)) gs z Y3.1 tx_23t tx_12gs := by rw [ty_35Y]; exact YC.leaf ya_27 aw_32 ty_35kt ty_35kq (by decide) (by decide) (fun _ => ⟨rfl, rfl⟩) (Nat.le_succ _) rfl tx_23z
        have ty_35z0 : sto Y3.1 = 0 := by rw [ty_35Y]; exact tx_23z
        have ty_35sq : stp Y3.1 = tx_23q := by rw [ty_35Y]; exact tx_23sq
        have ty_352 : Y3.2 = tx_23T := by rw [ty_35Y]; exact ya_27T
        have ty_35lt : Y3.2 < nT Y3.1 := by rw [ty_35Y]; exact Nat.lt_succ_self _
        have ty_35nm : nT Y2 ≤ nT Y3.1 := by rw [ty_35Y]; exact Nat.le_succ _
        have ty_3513 : S_29.1 13 = -9 := (aw_32.1 13 (by decide)).trans tx_2313
        obtain rfl : r_28 = nI Y3.2 := ty_35v.trans (by rw [ty_352])
        have vl_38 : Y1.2 < nT Y3.1 := Nat.lt_of_lt_of_le vl_25 ty_35nm
        refine lv_istore (lv' := [(6, .int (nI Y3.2)), (5, .int 0), (4, .int (nI Y1.2)), (0, .ref (ga G 4)), (1, .int (nI n9)), (2, .int (nI lv)), (3, .int (nI dp))]) hx hb dX5_typedPick_55 hl (by decide) rfl (fun ls hl => ?_)
        refine lv_iload hx hb dX5_typedPick_57 (lv_at hl 0 rfl) ?_
        refine lv_if_ge (tgt := 65) hx hb dX5_typedPick_59 (by decide) (fun c_39 => ?_) (fun c_39 => absurd (Int32.not_lt.mp (nI_n0 (by omega))) c_39)
        refine lv_iconst (v := 1) hx hb dX5_typedPick_65 (by decide) ?_
        refine lv_istore (lv' := [(7, .int 1), (6, .int (nI Y3.2)), (5, .int 0), (4, .int (nI Y1.2)), (0, .ref (ga G 4)), (1, .int (nI n9)), (2, .int (nI lv)), (3, .int (nI dp))]) hx hb dX5_typedPick_66 hl (by decide) rfl (fun ls hl => ?_)
        refine lv_iload hx hb dX5_typedPick_68 (lv_at hl 0 rfl) ?_
        refine lv_iconst (v := 2) hx hb dX5_typedPick_70 (by decide) ?_
        refine lv_icmp_gt (tgt := 129) hx hb dX5_typedPick_71 (by decide) (fun c_40 => absurd c_40 (by decide)) (fun c_40 => ?_)
        refine lv_aload_n hx hb dX5_typedPick_74 rfl (lv_at hl 4 rfl) ?_
        refine lv_aload_n hx hb dX5_typedPick_75 rfl (lv_at hl 4 rfl) ?_
        refine va_get (D := gD G) (ci := 5) (v := .ref (ga G 1)) (C := RX5) (T := TX5) (N := 15) hx hb htu cu_in5 hown hK hP 4 cw_4 rfl 0 (by decide) (htu _ C_60) (fun _ h9 => h9) rfl dX5_typedPick_76 ?_
        refine lv_iload_n hx hb dX5_typedPick_79 rfl (lv_at hl 5 rfl) ?_
        refine lv_iload hx hb dX5_typedPick_80 (lv_at hl 0 rfl) ?_
        have hC0 := hC
        refine c_ci (c_runV (As := [.int (nI n9), .int 1]) (rest := [.ref (ga G 4)]) (q0 := 1) (ci := 3) ⟨hx, hb, hml, hown, htu⟩ (tt_partOf l G S_29 N (nI n9) 1 hC tj_34.1 H) (cwV 2 htu hU_X5_144 rfl rfl rfl (by decide +kernel) ⟨show 1 + 1 ≤ 2 * fu + 141 by omega, show 8 + (3 + 11) + 21 ≤ 60 * fu + 6530 by omega⟩) hP hK hD hC hpp cw_1 rfl rfl hl.1 rfl (lv_room (Nat.le_of_ble_eq_true rfl)) dX5_typedPick_82) hS hD hh hpp (fun r_41 S_42 H locs hw_43 hP hD hS hC hh hs_44 hpq => ?_)
        clear hpp
        have hpp := hpq
        clear hpq
        obtain ⟨-, hu9, hw_43⟩ := hw_43
        have hu9 := hu9.symm
        subst hu9
        obtain rfl : r_41 = nI (tr 11 n9) := hw_43.trans ((hE.aw aw_32t (by decide)).part hn (i := 1) (by rw [hp9]; decide))
        refine lv_iload_n hx hb dX5_typedPick_85 rfl (lv_at hl 6 rfl) ?_
        refine lv_iload_n hx hb dX5_typedPick_86 rfl (lv_at hl 7 rfl) ?_
        refine lv_iconst (v := 1) hx hb dX5_typedPick_87 (by decide) ?_
        refine lv_iadd hx hb dX5_typedPick_88 ?_
        refine m_top (y := nI (dp + 1)) (nI_add dp 1) ?_
        have hC0 := hC
        refine c_ci (c_runV (As := [.int (nI (tr 11 n9)), .int (nI lv), .int (nI (dp + 1))]) (rest := []) (q0 := 4) (ci := 5) ⟨hx, hb, hml, hown, htu⟩ (ih l G S_29 ((tx_23T + 1)) ((tx_23V + 1)) tx_23X Y tx_23Z tx_23q N ((dp + 1)) lv tr mk rk top tx_12gs Y3.1 ((tr 11 n9)) tx_23t hC ty_35us ((by omega)) kk_33 tj_34 ((by omega)) ((by omega)) ((by omega)) ((hE.aw aw_32t (by decide))) ((hO.aw aw_32t (by decide))) hrk ((hE.plt hn (i := 1) (by rw [hp9]; decide))) htp (((aw_32t.1 11 (by decide)).trans h11)) ((Cv.part hcv ((hO n9 hn).2.2.1 1 (by rw [hp9]; decide)) (ty_35yc.2.2.2.2.2.2.2 ty_35z0).1 (fun h => by unfold covers at h; omega))) ty_35yc.1 ty_35yc.2.1 ty_35yc.2.2.1 ty_35yc.2.2.2.1 ((by have := ty_35yc.2.2.2.2.1; omega)) ty_35z0 ty_35sq ty_3513 ty_35yc.2.2.2.2.2.2.1 ((ty_35yc.2.2.2.2.2.2.2 ty_35z0).2) H) (cwV 3 htu hU_X5_77 rfl rfl rfl (by decide +kernel) ⟨show (2 * fu + 140) + 1 ≤ 2 * fu + 141 by omega, show 8 + (5 + 11) + (60 * fu + 6500) ≤ 60 * fu + 6530 by omega⟩) hP hK hD hC hpp cw_4 rfl rfl hl.1 rfl (lv_room (Nat.le_of_ble_eq_true rfl)) dX5_typedPick_89) hS hD hh hpp (fun r_45 S_46 H locs hw_47 hP hD hS hC hh hs_48 hpq => ?_)
        clear hpp
        have hpp := hpq
        clear hpq
        try dsimp only at hw_47
        have aw_49 : AW [6, 7, 8, 9, 16, 14, 10, 11, 12, 13, 17, 18, 23, 24, 25, 26, 35] [8, 9, 10, 12, 13] S_29 S_46 := hw_47.1
        have aw_49t : AW [6, 7, 8, 9, 16, 14, 10, 11, 12, 13, 17, 18, 23, 24, 25, 26, 35] [8, 9, 10, 12, 13] S S_46 := aw_32t.tr (aw_49.mono (by decide) (by decide))
        have kk_50 : kK S_46 15 = 0 := (aw_49.2.1 15 (lt35 (by decide)) (by decide)).2.trans kk_33
        have tj_51 : TJ S_46 N := TJ.aw tj_34 aw_49 (by decide)
        obtain ⟨tx_52A, tx_52E⟩ := hw_47.2
        clear hw_47
        rw [← e4] at tx_52E
        obtain ⟨⟨tx_52t, tx_52gs, tx_52y0⟩, tx_52g, tx_52b⟩ := tx_52E
        have tx_52yc := YC.tr ty_35yc tx_52y0 (show Y ≤ Y by omega) ty_35z0
        have nm_53 : nT Y3.1 ≤ nT Y4.1 := by rw [e4]; exact (x_ty _ _ _ _ _ _).1
        have vl_54 : Y1.2 < nT Y4.1 := Nat.lt_of_lt_of_le vl_38 nm_53
        have vl_55 : Y3.2 < nT Y4.1 := Nat.lt_of_lt_of_le ty_35lt nm_53
        rcases Nat.eq_zero_or_pos (sto Y4.1) with tx_52z | tx_52z
        · skip
          obtain ⟨tx_52v, tx_52x, tx_5212, tx_5213⟩ := tx_52g tx_52z
          subst tx_52v
          have tx_526 := tx_52yc.1.1.2.2.2.2.2.2.2.1
          have tx_520 : 0 ≤ nI Y4.2 := Int32.not_lt.mp (nI_n0 (by omega))
          obtain ⟨tx_52T, tx_52V, tx_52X, tx_52Z, tx_52q, tx_52u, tx_521, tx_522, tx_523, tx_524⟩ := tx_52A.ok tx_520
          obtain ⟨tx_52tT, tx_52tV, tx_52tB, tx_52tX⟩ := id tx_52u.1.2.1
          have tx_52sq : stp Y4.1 = tx_52q := (nI_eq (by have := tx_52yc.2.2.2.2.1; omega) (by omega)).mp (tx_5212.symm.trans tx_52u.2.1)
          clear tx_52g tx_52b tx_52A
          refine lv_istore (lv' := [(8, .int (nI Y4.2)), (7, .int 1), (6, .int (nI Y3.2)), (5, .int 0), (4, .int (nI Y1.2)), (0, .ref (ga G 4)), (1, .int (nI n9)), (2, .int (nI lv)), (3, .int (nI dp))]) hx hb dX5_typedPick_92 hl (by decide) rfl (fun ls hl => ?_)
          refine lv_iload hx hb dX5_typedPick_94 (lv_at hl 0 rfl) ?_
          refine lv_if_ge (tgt := 104) hx hb dX5_typedPick_96 (by decide) (fun c_56 => ?_) (fun c_56 => absurd (Int32.not_lt.mp (nI_n0 (by omega))) c_56)
          refine lv_aload_n hx hb dX5_typedPick_104 rfl (lv_at hl 5 rfl) ?_
          refine lv_iload hx hb dX5_typedPick_105 (lv_at hl 0 rfl) ?_
          refine lv_iload hx hb dX5_typedPick_107 (lv_at hl 2 rfl) ?_
          refine lv_iconst (v := 1) hx hb dX5_typedPick_109 (by decide) ?_
          have ya_57 := yc_askn tx_52yc n9
          have hC0 := hC
          refine c_ci (c_runV (As := [.int (nI Y4.2), .int (nI Y3.2), .int 1]) (rest := []) (q0 := 4) (ci := 5) ⟨hx, hb, hml, hown, htu⟩ ((x_under_all 60) l G S_46 tx_52T tx_52V tx_52X Y tx_52Z tx_52q 1 ((w1 Y4.1 0 5 n9)) Y4.2 Y3.2 tx_52t hC tx_52u ((by omega)) kk_50 ((show 1 + 60 = 61 by decide)) ((by omega)) ya_57.1 ya_57.2.1 ya_57.2.2.1 ya_57.2.2.2.1 ((by have := ya_57.2.2.2.2.1; omega)) tx_52z tx_52sq tx_52x vl_55 H) (cwV 3 htu hU_X5_150 rfl rfl rfl (by decide +kernel) ⟨show (60 + 70) + 1 ≤ 2 * fu + 141 by omega, show 8 + (8 + 11) + (40 * 60 + 3000) ≤ 60 * fu + 6530 by omega⟩) hP hK hD hC hpp cw_4 rfl rfl hl.1 rfl (lv_room (Nat.le_of_ble_eq_true rfl)) dX5_typedPick_110) hS hD hh hpp (fun r_58 S_59 H locs hw_60 hP hD hS hC hh hs_61 hpq => ?_)
          clear hpp
          have hpp := hpq
          clear hpq
          try dsimp only at hw_60
          have aw_62 : AW [6, 7, 8, 9, 16, 14, 10, 11, 12, 13, 17, 18, 25, 26, 35] [8, 9, 10, 12] S_46 S_59 := hw_60.1
          have aw_62t : AW [6, 7, 8, 9, 16, 14, 10, 11, 12, 13, 17, 18, 23, 24, 25, 26, 35] [8, 9, 10, 12, 13] S S_59 := aw_49t.tr (aw_62.mono (by decide) (by decide))
          have kk_63 : kK S_59 15 = 0 := (aw_62.2.1 15 (lt35 (by decide)) (by decide)).2.trans kk_50
          have tj_64 : TJ S_59 N := TJ.aw tj_51 aw_62 (by decide)
          have tx_65e : Y5 = un 60 (w1 Y4.1 0 5 n9) Y4.2 Y3.2 := e5.trans (puts_e tx_52z)
          obtain ⟨tx_65A0, tx_65E⟩ := hw_60.2
          clear hw_60
          have tx_65A := UX.tx tx_65A0
          clear tx_65A0
          rw [← tx_65e] at tx_65E
          obtain ⟨⟨tx_65t, tx_65uc⟩, tx_65M⟩ := tx_65E
          have tx_65yc := yc_under ya_57 tx_65uc aw_62 (by decide) (by rw [tx_65e]; exact k_un _ _ _ _) (by rw [tx_65e]; exact (x_un _ _ _ _).1) (fun _ => tx_52z)
          have nm_66 : nT Y4.1 ≤ nT Y5 := by rw [tx_65e]; exact (x_un 60 (w1 Y4.1 0 5 n9) _ _).1
          have vl_67 : Y1.2 < nT Y5 := Nat.lt_of_lt_of_le vl_54 nm_66
          have vl_68 : Y3.2 < nT Y5 := Nat.lt_of_lt_of_le vl_55 nm_66
          have vl_69 : Y4.2 < nT Y5 := Nat.lt_of_lt_of_le tx_52x nm_66
          have tx_6513 : S_59.1 13 = -9 := (aw_62.1 13 (by decide)).trans tx_5213
          rcases Nat.eq_zero_or_pos (sto Y5) with tx_65z | tx_65z
          · skip
            obtain ⟨tx_65v, tx_6512⟩ := tx_65M.1 tx_65z
            subst tx_65v
            obtain ⟨tx_65T, tx_65V, tx_65X, tx_65Z, tx_65q, tx_65u, tx_651, tx_652, tx_653, tx_654⟩ := tx_65A.ok (by decide)
            obtain ⟨tx_65tT, tx_65tV, tx_65tB, tx_65tX⟩ := id tx_65u.1.2.1
            have tx_65sq : stp Y5 = tx_65q := (nI_eq (by have := tx_65yc.2.2.2.2.1; omega) (by omega)).mp (tx_6512.symm.trans tx_65u.2.1)
            clear tx_65A tx_65M
            refine lv_istore (lv' := [(5, .int 0), (8, .int (nI Y4.2)), (7, .int 1), (6, .int (nI Y3.2)), (4, .int (nI Y1.2)), (0, .ref (ga G 4)), (1, .int (nI n9)), (2, .int (nI lv)), (3, .int (nI dp))]) hx hb dX5_typedPick_113 hl (by decide) rfl (fun ls hl => ?_)
            refine lv_iload hx hb dX5_typedPick_115 (lv_at hl 0 rfl) ?_
            refine lv_if_ge (tgt := 123) hx hb dX5_typedPick_117 (by decide) (fun c_70 => ?_) (fun c_70 => absurd (by decide) c_70)
            refine lv_iinc (v := 2) (lv' := [(7, .int 2), (5, .int 0), (8, .int (nI Y4.2)), (6, .int (nI Y3.2)), (4, .int (nI Y1.2)), (0, .ref (ga G 4)), (1, .int (nI n9)), (2, .int (nI lv)), (3, .int (nI dp))]) hx hb dX5_typedPick_123 hl (k := 2) rfl (by decide) (by decide) rfl (fun ls hl => ?_)
            refine lv_goto (tgt := 68) hx hb dX5_typedPick_126 (by decide) ?_
            refine lv_iload hx hb dX5_typedPick_68 (lv_at hl 0 rfl) ?_
            refine lv_iconst (v := 2) hx hb dX5_typedPick_70 (by decide) ?_
            refine lv_icmp_gt (tgt := 129) hx hb dX5_typedPick_71 (by decide) (fun c_71 => absurd c_71 (by decide)) (fun c_71 => ?_)
            refine lv_aload_n hx hb dX5_typedPick_74 rfl (lv_at hl 5 rfl) ?_
            refine lv_aload_n hx hb dX5_typedPick_75 rfl (lv_at hl 5 rfl) ?_
            refine va_get (D := gD G) (ci := 5) (v := .ref (ga G 1)) (C := RX5) (T := TX5) (N := 15) hx hb htu cu_in5 hown hK hP 4 cw_4 rfl 0 (by decide) (htu _ C_60) (fun _ h9 => h9) rfl dX5_typedPick_76 ?_
            refine lv_iload_n hx hb dX5_typedPick_79 rfl (lv_at hl 6 rfl) ?_
            refine lv_iload hx hb dX5_typedPick_80 (lv_at hl 0 rfl) ?_
            have hC0 := hC
            refine c_ci (c_runV (As := [.int (nI n9), .int 2]) (rest := [.ref (ga G 4)]) (q0 := 1) (ci := 3) ⟨hx, hb, hml, hown, htu⟩ (tt_partOf l G S_59 N (nI n9) 2 hC tj_64.1 H) (cwV 2 htu hU_X5_144 rfl rfl rfl (by decide +kernel) ⟨show 1 + 1 ≤ 2 * fu + 141 by omega, show 8 + (3 + 11) + 21 ≤ 60 * fu + 6530 by omega⟩) hP hK hD hC hpp cw_1 rfl rfl hl.1 rfl (lv_room (Nat.le_of_ble_eq_true rfl)) dX5_typedPick_82) hS hD hh hpp (fun r_72 S_73 H locs hw_74 hP hD hS hC hh hs_75 hpq => ?_)
            clear hpp
            have hpp := hpq
            clear hpq
            obtain ⟨-, hu9, hw_74⟩ := hw_74
            have hu9 := hu9.symm
            subst hu9
            obtain rfl : r_72 = nI (tr 12 n9) := hw_74.trans ((hE.aw aw_62t (by decide)).part hn (i := 2) (by rw [hp9]; decide))
            refine lv_iload_n hx hb dX5_typedPick_85 rfl (lv_at hl 7 rfl) ?_
            refine lv_iload_n hx hb dX5_typedPick_86 rfl (lv_at hl 8 rfl) ?_
            refine lv_iconst (v := 1) hx hb dX5_typedPick_87 (by decide) ?_
            refine lv_iadd hx hb dX5_typedPick_88 ?_
            refine m_top (y := nI (dp + 1)) (nI_add dp 1) ?_
            have hC0 := hC
            refine c_ci (c_runV (As := [.int (nI (tr 12 n9)), .int (nI lv), .int (nI (dp + 1))]) (rest := []) (q0 := 4) (ci := 5) ⟨hx, hb, hml, hown, htu⟩ (ih l G S_59 tx_65T tx_65V tx_65X Y tx_65Z tx_65q N ((dp + 1)) lv tr mk rk top tx_52gs Y5 ((tr 12 n9)) tx_65t hC tx_65u ((by omega)) kk_63 tj_64 ((by omega)) ((by omega)) ((by omega)) ((hE.aw aw_62t (by decide))) ((hO.aw aw_62t (by decide))) hrk ((hE.plt hn (i := 2) (by rw [hp9]; decide))) htp (((aw_62t.1 11 (by decide)).trans h11)) ((Cv.part hcv ((hO n9 hn).2.2.1 2 (by rw [hp9]; decide)) (tx_65yc.2.2.2.2.2.2.2 tx_65z).1 (fun h => by unfold covers at h; omega))) tx_65yc.1 tx_65yc.2.1 tx_65yc.2.2.1 tx_65yc.2.2.2.1 ((by have := tx_65yc.2.2.2.2.1; omega)) tx_65z tx_65sq tx_6513 tx_65yc.2.2.2.2.2.2.1 ((tx_65yc.2.2.2.2.2.2.2 tx_65z).2) H) (cwV 3 htu hU_X5_77 rfl rfl rfl (by decide +kernel) ⟨show (2 * fu + 140) + 1 ≤ 2 * fu + 141 by omega, show 8 + (5 + 11) + (60 * fu + 6500) ≤ 60 * fu + 6530 by omega⟩) hP hK hD hC hpp cw_4 rfl rfl hl.1 rfl (lv_room (Nat.le_of_ble_eq_true rfl)) dX5_typedPick_89) hS hD hh hpp (fun r_76 S_77 H locs hw_78 hP hD hS hC hh hs_79 hpq => ?_)
            clear hpp
            have hpp := hpq
            clear hpq
            try dsimp only at hw_78
            have aw_80 : AW [6, 7, 8, 9, 16, 14, 10, 11, 12, 13, 17, 18, 23, 24, 25, 26, 35] [8, 9, 10, 12, 13] S_59 S_77 := hw_78.1
            have aw_80t : AW [6, 7, 8, 9, 16, 14, 10, 11, 12, 13, 17, 18, 23, 24, 25, 26, 35] [8, 9, 10, 12, 13] S S_77 := aw_62t.tr (aw_80.mono (by decide) (by decide))
            have kk_81 : kK S_77 15 = 0 := (aw_80.2.1 15 (lt35 (by decide)) (by decide)).2.trans kk_63
            have tj_82 : TJ S_77 N := TJ.aw tj_64 aw_80 (by decide)
            obtain ⟨tx_83A, tx_83E⟩ := hw_78.2
            clear hw_78
            rw [← e6] at tx_83E
            obtain ⟨⟨tx_83t, tx_83gs, tx_83y0⟩, tx_83g, tx_83b⟩ := tx_83E
            have tx_83yc := YC.tr tx_65yc tx_83y0 (show Y ≤ Y by omega) tx_65z
            have nm_84 : nT Y5 ≤ nT Y6.1 := by rw [e6]; exact (x_ty _ _ _ _ _ _).1
            have vl_85 : Y1.2 < nT Y6.1 := Nat.lt_of_lt_of_le vl_67 nm_84
            have vl_86 : Y3.2 < nT Y6.1 := Nat.lt_of_lt_of_le vl_68 nm_84
            have vl_87 : Y4.2 < nT Y6.1 := Nat.lt_of_lt_of_le vl_69 nm_84
            rcases Nat.eq_zero_or_pos (sto Y6.1) with tx_83z | tx_83z
            · skip
              obtain ⟨tx_83v, tx_83x, tx_8312, tx_8313⟩ := tx_83g tx_83z
              subst tx_83v
              have tx_836 := tx_83yc.1.1.2.2.2.2.2.2.2.1
              have tx_830 : 0 ≤ nI Y6.2 := Int32.not_lt.mp (nI_n0 (by omega))
              obtain ⟨tx_83T, tx_83V, tx_83X, tx_83Z, tx_83q, tx_83u, tx_831, tx_832, tx_833, tx_834⟩ := tx_83A.ok tx_830
              obtain ⟨tx_83tT, tx_83tV, tx_83tB, tx_83tX⟩ := id tx_83u.1.2.1
              have tx_83sq : stp Y6.1 = tx_83q := (nI_eq (by have := tx_83yc.2.2.2.2.1; omega) (by omega)).mp (tx_8312.symm.trans tx_83u.2.1)
              clear tx_83g tx_83b tx_83A
              refine lv_istore (lv' := [(8, .int (nI Y6.2)), (7, .int 2), (5, .int 0), (6, .int (nI Y3.2)), (4, .int (nI Y1.2)), (0, .ref (ga G 4)), (1, .int (nI n9)), (2, .int (nI lv)), (3, .int (nI dp))]) hx hb dX5_typedPick_92 hl (by decide) rfl (fun ls hl => ?_)
              refine lv_iload hx hb dX5_typedPick_94 (lv_at hl 0 rfl) ?_
              refine lv_if_ge (tgt := 104) hx hb dX5_typedPick_96 (by decide) (fun c_88 => ?_) (fun c_88 => absurd (Int32.not_lt.mp (nI_n0 (by omega))) c_88)
              refine lv_aload_n hx hb dX5_typedPick_104 rfl (lv_at hl 5 rfl) ?_
              refine lv_iload hx hb dX5_typedPick_105 (lv_at hl 0 rfl) ?_
              refine lv_iload hx hb dX5_typedPick_107 (lv_at hl 3 rfl) ?_
              refine lv_iconst (v := 1) hx hb dX5_typedPick_109 (by decide) ?_
              have ya_89 := yc_askn tx_83yc n9
              have hC0 := hC
              refine c_ci (c_runV (As := [.int (nI Y6.2), .int (nI Y3.2), .int 1]) (rest := []) (q0 := 4) (ci := 5) ⟨hx, hb, hml, hown, htu⟩ ((x_under_all 60) l G S_77 tx_83T tx_83V tx_83X Y tx_83Z tx_83q 1 ((w1 Y6.1 0 5 n9)) Y6.2 Y3.2 tx_83t hC tx_83u ((by omega)) kk_81 ((show 1 + 60 = 61 by decide)) ((by omega)) ya_89.1 ya_89.2.1 ya_89.2.2.1 ya_89.2.2.2.1 ((by have := ya_89.2.2.2.2.1; omega)) tx_83z tx_83sq tx_83x vl_86 H) (cwV 3 htu hU_X5_150 rfl rfl rfl (by decide +kernel) ⟨show (60 + 70) + 1 ≤ 2 * fu + 141 by omega, show 8 + (8 + 11) + (40 * 60 + 3000) ≤ 60 * fu + 6530 by omega⟩) hP hK hD hC hpp cw_4 rfl rfl hl.1 rfl (lv_room (Nat.le_of_ble_eq_true rfl)) dX5_typedPick_110) hS hD hh hpp (fun r_90 S_91 H locs hw_92 hP hD hS hC hh hs_93 hpq => ?_)
              clear hpp
              have hpp := hpq
              clear hpq
              try dsimp only at hw_92
              have aw_94 : AW [6, 7, 8, 9, 16, 14, 10, 11, 12, 13, 17, 18, 25, 26, 35] [8, 9, 10, 12] S_77 S_91 := hw_92.1
              have aw_94t : AW [6, 7, 8, 9, 16, 14, 10, 11, 12, 13, 17, 18, 23, 24, 25, 26, 35] [8, 9, 10, 12, 13] S S_91 := aw_80t.tr (aw_94.mono (by decide) (by decide))
              have kk_95 : kK S_91 15 = 0 := (aw_94.2.1 15 (lt35 (by decide)) (by decide)).2.trans kk_81
              have tj_96 : TJ S_91 N := TJ.aw tj_82 aw_94 (by decide)
              have tx_97e : Y7 = un 60 (w1 Y6.1 0 5 n9) Y6.2 Y3.2 := e7.trans (puts_e tx_83z)
              obtain ⟨tx_97A0, tx_97E⟩ := hw_92.2
              clear hw_92
              have tx_97A := UX.tx tx_97A0
              clear tx_97A0
              rw [← tx_97e] at tx_97E
              obtain ⟨⟨tx_97t, tx_97uc⟩, tx_97M⟩ := tx_97E
              have tx_97yc := yc_under ya_89 tx_97uc aw_94 (by decide) (by rw [tx_97e]; exact k_un _ _ _ _) (by rw [tx_97e]; exact (x_un _ _ _ _).1) (fun _ => tx_83z)
              have nm_98 : nT Y6.1 ≤ nT Y7 := by rw [tx_97e]; exact (x_un 60 (w1 Y6.1 0 5 n9) _ _).1
              have vl_99 : Y1.2 < nT Y7 := Nat.lt_of_lt_of_le vl_85 nm_98
              have vl_100 : Y3.2 < nT Y7 := Nat.lt_of_lt_of_le vl_86 nm_98
              have vl_101 : Y4.2 < nT Y7 := Nat.lt_of_lt_of_le vl_87 nm_98
              have vl_102 : Y6.2 < nT Y7 := Nat.lt_of_lt_of_le tx_83x nm_98
              have tx_9713 : S_91.1 13 = -9 := (aw_94.1 13 (by decide)).trans tx_8313
              rcases Nat.eq_zero_or_pos (sto Y7) with tx_97z | tx_97z
              · skip
                obtain ⟨tx_97v, tx_9712⟩ := tx_97M.1 tx_97z
                subst tx_97v
                obtain ⟨tx_97T, tx_97V, tx_97X, tx_97Z, tx_97q, tx_97u, tx_971, tx_972, tx_973, tx_974⟩ := tx_97A.ok (by decide)
                obtain ⟨tx_97tT, tx_97tV, tx_97tB, tx_97tX⟩ := id tx_97u.1.2.1
                have tx_97sq : stp Y7 = tx_97q := (nI_eq (by have := tx_97yc.2.2.2.2.1; omega) (by omega)).mp (tx_9712.symm.trans tx_97u.2.1)
                clear tx_97A tx_97M
                refine lv_istore (lv' := [(5, .int 0), (8, .int (nI Y6.2)), (7, .int 2), (6, .int (nI Y3.2)), (4, .int (nI Y1.2)), (0, .ref (ga G 4)), (1, .int (nI n9)), (2, .int (nI lv)), (3, .int (nI dp))]) hx hb dX5_typedPick_113 hl (by decide) rfl (fun ls hl => ?_)
                refine lv_iload hx hb dX5_typedPick_115 (lv_at hl 0 rfl) ?_
                refine lv_if_ge (tgt := 123) hx hb dX5_typedPick_117 (by decide) (fun c_103 => ?_) (fun c_103 => absurd (by decide) c_103)
                refine lv_iinc (v := 3) (lv' := [(7, .int 3), (5, .int 0), (8, .int (nI Y6.2)), (6, .int (nI Y3.2)), (4, .int (nI Y1.2)), (0, .ref (ga G 4)), (1, .int (nI n9)), (2, .int (nI lv)), (3, .int (nI dp))]) hx hb dX5_typedPick_123 hl (k := 2) rfl (by decide) (by decide) rfl (fun ls hl => ?_)
                refine lv_goto (tgt := 68) hx hb dX5_typedPick_126 (by decide) ?_
                refine lv_iload hx hb dX5_typedPick_68 (lv_at hl 0 rfl) ?_
                refine lv_iconst (v := 2) hx hb dX5_typedPick_70 (by decide) ?_
                refine lv_icmp_gt (tgt := 129) hx hb dX5_typedPick_71 (by decide) (fun c_104 => ?_) (fun c_104 => absurd (by decide) c_104)
                refine lv_iload hx hb dX5_typedPick_129 (lv_at hl 3 rfl) ?_
                exact c_iret (v := nI Y3.2) hx hb hr hK hP hD hS hC hh hpp ⟨aw_94t, ⟨US.tx tx_97u (by omega) _, yf_good (YC.cm tx_97yc (by omega)) tx_97z rfl vl_100 (tx_97u.2.1.trans (by rw [tx_97sq])) tx_9713 er⟩⟩ dX5_typedPick_131 hlocks
              · skip
                have tx_97zz : sto Y7 ≠ 0 := Nat.ne_of_gt tx_97z
                have tx_97v := tx_97M.2 tx_97zz
                have tx_97nn : ¬ 0 ≤ r_90 := Int32.not_le.mpr (by rw [tx_97v]; exact sc_neg tx_97zz)
                clear tx_97M
                refine lv_istore (lv' := [(5, .int r_90), (8, .int (nI Y6.2)), (7, .int 2), (6, .int (nI Y3.2)), (4, .int (nI Y1.2)), (0, .ref (ga G 4)), (1, .int (nI n9)), (2, .int (nI lv)), (3, .int (nI dp))]) hx hb dX5_typedPick_113 hl (by decide) rfl (fun ls hl => ?_)
                refine lv_iload hx hb dX5_typedPick_115 (lv_at hl 0 rfl) ?_
                refine lv_if_ge (tgt := 123) hx hb dX5_typedPick_117 (by decide) (fun c_105 => absurd c_105 tx_97nn) (fun c_105 => ?_)
                refine lv_iload hx hb dX5_typedPick_120 (lv_at hl 0 rfl) ?_
                exact c_iret (v := r_90) hx hb hr hK hP hD hS hC hh hpp ⟨aw_94t, ⟨(TX.bad tx_97A (by omega) (Int32.not_le.mp tx_97nn)), yf_bad (YC.cm tx_97yc (by omega)) tx_97zz SM.rf tx_97v (pl_wh (by rw [tx_97e]; exact wh_un 60 _ _ _) tx_83z tx_97zz tx_9713) er⟩⟩ dX5_typedPick_122 hlocks
            · skip
              have tx_83zz : sto Y6.1 ≠ 0 := Nat.ne_of_gt tx_83z
              obtain ⟨tx_83v, tx_83p⟩ := tx_83b tx_83zz
              have tx_83nn : ¬ 0 ≤ r_76 := Int32.not_le.mpr (by rw [tx_83v]; exact sc_neg tx_83zz)
              clear tx_83g tx_83b
              refine lv_istore (lv' := [(8, .int r_76), (7, .int 2), (5, .int 0), (6, .int (nI Y3.2)), (4, .int (nI Y1.2)), (0, .ref (ga G 4)), (1, .int (nI n9)), (2, .int (nI lv)), (3, .int (nI dp))]) hx hb dX5_typedPick_92 hl (by decide) rfl (fun ls hl => ?_)
              refine lv_iload hx hb dX5_typedPick_94 (lv_at hl 0 rfl) ?_
              refine lv_if_ge (tgt := 104) hx hb dX5_typedPick_96 (by decide) (fun c_107 => absurd c_107 tx_83nn) (fun c_107 => ?_)
              refine lv_iload hx hb dX5_typedPick_99 (lv_at hl 0 rfl) ?_
              refine lv_goto (tgt := 113) hx hb dX5_typedPick_101 (by decide) ?_
              refine lv_istore (lv' := [(5, .int r_76), (8, .int r_76), (7, .int 2), (6, .int (nI Y3.2)), (4, .int (nI Y1.2)), (0, .ref (ga G 4)), (1, .int (nI n9)), (2, .int (nI lv)), (3, .int (nI dp))]) hx hb dX5_typedPick_113 hl (by decide) rfl (fun ls hl => ?_)
              refine lv_iload hx hb dX5_typedPick_115 (lv_at hl 0 rfl) ?_
              refine lv_if_ge (tgt := 123) hx hb dX5_typedPick_117 (by decide) (fun c_108 => absurd c_108 tx_83nn) (fun c_108 => ?_)
              refine lv_iload hx hb dX5_typedPick_120 (lv_at hl 0 rfl) ?_
              have sm_109_6 : SM Y6.1 Y7 := by rw [e7]; exact (sm_puts _ _ _ tx_83zz)
              have sm_109_6h : sto Y7 ≠ 0 := sm_109_6.ne tx_83zz
              exact c_iret (v := r_76) hx hb hr hK hP hD hS hC hh hpp ⟨aw_80t, ⟨(TX.bad tx_83A (by omega) (Int32.not_le.mp tx_83nn)), yf_bad (YC.cm tx_83yc (by omega)) tx_83zz sm_109_6 tx_83v (Or.inl tx_83p) er⟩⟩ dX5_typedPick_122 hlocks
          · skip
            have tx_65zz : sto Y5 ≠ 0 := Nat.ne_of_gt tx_65z
            have tx_65v := tx_65M.2 tx_65zz
            have tx_65nn : ¬ 0 ≤ r_58 := Int32.not_le.mpr (by rw [tx_65v]; exact sc_neg tx_65zz)
            clear tx_65M
            refine lv_istore (lv' := [(5, .int r_58), (8, .int (nI Y4.2)), (7, .int 1), (6, .int (nI Y3.2)), (4, .int (nI Y1.2)), (0, .ref (ga G 4)), (1, .int (nI n9)), (2, .int (nI lv)), (3, .int (nI dp))]) hx hb dX5_typedPick_113 hl (by decide) rfl (fun ls hl => ?_)
            refine lv_iload hx hb dX5_typedPick_115 (lv_at hl 0 rfl) ?_
            refine lv_if_ge (tgt := 123) hx hb dX5_typedPick_117 (by decide) (fun c_110 => absurd c_110 tx_65nn) (fun c_110 => ?_)
            refine lv_iload hx hb dX5_typedPick_120 (lv_at hl 0 rfl) ?_
            have sm_111_5 : SM Y5 Y6.1 := by rw [e6]; exact (sm_ty tx_65zz)
            have sm_111_5h : sto Y6.1 ≠ 0 := sm_111_5.ne tx_65zz
            have sm_111_6 : SM Y6.1 Y7 := by rw [e7]; exact (sm_puts _ _ _ sm_111_5h)
            have sm_111_6h : sto Y7 ≠ 0 := sm_111_6.ne sm_111_5h
            exact c_iret (v := r_58) hx hb hr hK hP hD hS hC hh hpp ⟨aw_62t, ⟨(TX.bad tx_65A (by omega) (Int32.not_le.mp tx_65nn)), yf_bad (YC.cm tx_65yc (by omega)) tx_65zz (sm_111_5.tr sm_111_6) tx_65v (pl_wh (by rw [tx_65e]; exact wh_un 60 _ _ _) tx_52z tx_65zz tx_6513) er⟩⟩ dX5_typedPick_122 hlocks
        · skip
          have tx_52zz : sto Y4.1 ≠ 0 := Nat.ne_of_gt tx_52z
          obtain ⟨tx_52v, tx_52p⟩ := tx_52b tx_52zz
          have tx_52nn : ¬ 0 ≤ r_45 := Int32.not_le.mpr (by rw [tx_52v]; exact sc_neg tx_52zz)
          clear tx_52g tx_52b
          refine lv_istore (lv' := [(8, .int r_45), (7, .int 1), (6, .int (nI Y3.2)), (5, .int 0), (4, .int (nI Y1.2)), (0, .ref (ga G 4)), (1, .int (nI n9)), (2, .int (nI lv)), (3, .int (nI dp))]) hx hb dX5_typedPick_92 hl (by decide) rfl (fun ls hl => ?_)
          refine lv_iload hx hb dX5_typedPick_94 (lv_at hl 0 rfl) ?_
          refine lv_if_ge (tgt := 104) hx hb dX5_typedPick_96 (by decide) (fun c_112 => absurd c_112 tx_52nn) (fun c_112 => ?_)
          refine lv_iload hx hb dX5_typedPick_99 (lv_at hl 0 rfl) ?_
          refine lv_goto (tgt := 113) hx hb dX5_typedPick_101 (by decide) ?_
          refine lv_istore (lv' := [(5, .int r_45), (8, .int r_45), (7, .int 1), (6, .int (nI Y3.2)), (4, .int (nI Y1.2)), (0, .ref (ga G 4)), (1, .int (nI n9)), (2, .int (nI lv)), (3, .int (nI dp))]) hx hb dX5_typedPick_113 hl (by decide) rfl (fun ls hl => ?_)
          refine lv_iload hx hb dX5_typedPick_115 (lv_at hl 0 rfl) ?_
          refine lv_if_ge (tgt := 123) hx hb dX5_typedPick_117 (by decide) (fun c_113 => absurd c_113 tx_52nn) (fun c_113 => ?_)
          refine lv_iload hx hb dX5_typedPick_120 (lv_at hl 0 rfl) ?_
          have sm_114_4 : SM Y4.1 Y5 := by rw [e5]; exact (sm_puts _ _ _ tx_52zz)
          have sm_114_4h : sto Y5 ≠ 0 := sm_114_4.ne tx_52zz
          have sm_114_5 : SM Y5 Y6.1 := by rw [e6]; exact (sm_ty sm_114_4h)
          have sm_114_5h : sto Y6.1 ≠ 0 := sm_114_5.ne sm_114_4h
          have sm_114_6 : SM Y6.1 Y7 := by rw [e7]; exact (sm_puts _ _ _ sm_114_5h)
          have sm_114_6h : sto Y7 ≠ 0 := sm_114_6.ne sm_114_5h
          exact c_iret (v := r_45) hx hb hr hK hP hD hS hC hh hpp ⟨aw_49t, ⟨(TX.bad tx_52A (by omega) (Int32.not_le.mp tx_52nn)), yf_bad (YC.cm tx_52yc (by omega)) tx_52zz ((sm_114_4.tr sm_114_5).tr sm_114_6) tx_52v (Or.inl tx_52p) er⟩⟩ dX5_typedPick_122 hlocks
    · skip
      have tx_23zz : sto Y2 ≠ 0 := Nat.ne_of_gt tx_23z
      have tx_23v := tx_23M.2 tx_23zz
      have tx_23nn : ¬ 0 ≤ r_16 := Int32.not_le.mpr (by rw [tx_23v]; exact sc_neg tx_23zz)
      clear tx_23M
      refine lv_istore (lv' := [(5, .int r_16), (4, .int (nI Y1.2)), (0, .ref (ga G 4)), (1, .int (nI n9)), (2, .int (nI lv)), (3, .int (nI dp))]) hx hb dX5_typedPick_37 hl (by decide) rfl (fun ls hl => ?_)
      refine lv_iload hx hb dX5_typedPick_39 (lv_at hl 0 rfl) ?_
      refine lv_if_ge (tgt := 47) hx hb dX5_typedPick_41 (by decide) (fun c_115 => absurd c_115 tx_23nn) (fun c_115 => ?_)
      refine lv_iload hx hb dX5_typedPick_44 (lv_at hl 0 rfl) ?_
      have sm_116_2 : SM Y2 Y3.1 := by rw [e3]; exact (sm_fresh _ _ tx_23zz)
      have sm_116_2h : sto Y3.1 ≠ 0 := sm_116_2.ne tx_23zz
      have sm_116_3 : SM Y3.1 Y4.1 := by rw [e4]; exact (sm_ty sm_116_2h)
      have sm_116_3h : sto Y4.1 ≠ 0 := sm_116_3.ne sm_116_2h
      have sm_116_4 : SM Y4.1 Y5 := by rw [e5]; exact (sm_puts _ _ _ sm_116_3h)
      have sm_116_4h : sto Y5 ≠ 0 := sm_116_4.ne sm_116_3h
      have sm_116_5 : SM Y5 Y6.1 := by rw [e6]; exact (sm_ty sm_116_4h)
      have sm_116_5h : sto Y6.1 ≠ 0 := sm_116_5.ne sm_116_4h
      have sm_116_6 : SM Y6.1 Y7 := by rw [e7]; exact (sm_puts _ _ _ sm_116_5h)
      have sm_116_6h : sto Y7 ≠ 0 := sm_116_6.ne sm_116_5h
      exact c_iret (v := r_16) hx hb hr hK hP hD hS hC hh hpp ⟨aw_20t, ⟨(TX.bad tx_23A (by omega) (Int32.not_le.mp tx_23nn)), yf_bad (YC.cm tx_23yc (by omega)) tx_23zz ((((sm_116_2.tr sm_116_3).tr sm_116_4).tr sm_116_5).tr sm_116_6) tx_23v (pl_wh (by rw [tx_23e]; exact wh_un 60 _ _ _) tx_12z tx_23zz tx_2313) er⟩⟩ dX5_typedPick_46 hlocks
  · skip
    have tx_12zz : sto Y1.1 ≠ 0 := Nat.ne_of_gt tx_12z
    obtain ⟨tx_12v, tx_12p⟩ := tx_12b tx_12zz
    have tx_12nn : ¬ 0 ≤ r_5 := Int32.not_le.mpr (by rw [tx_12v]; exact sc_neg tx_12zz)
    clear tx_12g tx_12b
    refine lv_istore (lv' := [(4, .int r_5), (0, .ref (ga G 4)), (1, .int (nI n9)), (2, .int (nI lv)), (3, .int (nI dp))]) hx hb dX5_typedPick_17 hl (by decide) rfl (fun ls hl => ?_)
    refine lv_iload hx hb dX5_typedPick_19 (lv_at hl 0 rfl) ?_
    refine lv_if_ge (tgt := 29) hx hb dX5_typedPick_21 (by decide) (fun c_117 => absurd c_117 tx_12nn) (fun c_117 => ?_)
    refine lv_iload hx hb dX5_typedPick_24 (lv_at hl 0 rfl) ?_
    refine lv_goto (tgt := 37) hx hb dX5_typedPick_26 (by decide) ?_
    refine lv_istore (lv' := [(5, .int r_5), (4, .int r_5), (0, .ref (ga G 4)), (1, .int (nI n9)), (2, .int (nI lv)), (3, .int (nI dp))]) hx hb dX5_typedPick_37 hl (by decide) rfl (fun ls hl => ?_)
    refine lv_iload hx hb dX5_typedPick_39 (lv_at hl 0 rfl) ?_
    refine lv_if_ge (tgt := 47) hx hb dX5_typedPick_41 (by decide) (fun c_118 => absurd c_118 tx_12nn) (fun c_118 => ?_)
    refine lv_iload hx hb dX5_typedPick_44 (lv_at hl 0 rfl) ?_
    have sm_119_1 : SM Y1.1 Y2 := by rw [e2]; exact (sm_puts _ _ _ tx_12zz)
    have sm_119_1h : sto Y2 ≠ 0 := sm_119_1.ne tx_12zz
    have sm_119_2 : SM Y2 Y3.1 := by rw [e3]; exact (sm_fresh _ _ sm_119_1h)
    have sm_119_2h : sto Y3.1 ≠ 0 := sm_119_2.ne sm_119_1h
    have sm_119_3 : SM Y3.1 Y4.1 := by rw [e4]; exact (sm_ty sm_119_2h)
    have sm_119_3h : sto Y4.1 ≠ 0 := sm_119_3.ne sm_119_2h
    have sm_119_4 : SM Y4.1 Y5 := by rw [e5]; exact (sm_puts _ _ _ sm_119_3h)
    have sm_119_4h : sto Y5 ≠ 0 := sm_119_4.ne sm_119_3h
    have sm_119_5 : SM Y5 Y6.1 := by rw [e6]; exact (sm_ty sm_119_4h)
    have sm_119_5h : sto Y6.1 ≠ 0 := sm_119_5.ne sm_119_4h
    have sm_119_6 : SM Y6.1 Y7 := by rw [e7]; exact (sm_puts _ _ _ sm_119_5h)
    have sm_119_6h : sto Y7 ≠ 0 := sm_119_6.ne sm_119_5h
    exact c_iret (v := r_5) hx hb hr hK hP hD hS hC hh hpp ⟨aw_9t, ⟨(TX.bad tx_12A (by omega) (Int32.not_le.mp tx_12nn)), yf_bad (YC.cm tx_12yc (by omega)) tx_12zz (((((sm_119_1.tr sm_119_2).tr sm_119_3).tr sm_119_4).tr sm_119_5).tr sm_119_6) tx_12v (Or.inl tx_12p) er⟩⟩ dX5_typedPick_46 hlocks

