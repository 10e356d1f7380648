def xTypedAt (fu : Nat) : Prop := ∀ (l : Launch) (G : cG) (S : cS) (T : Nat) (V : Nat) (X : Nat) (Y : Nat) (Z : Nat) (q : Nat) (N : Nat) (dp : Nat) (lv : Nat) (tr : aM) (mk : Nat → Int32) (rk : Nat → Nat) (top : Nat) (gs : Nat → Prop) (z : aS) (n9 : Nat) (tm : Nat) (hC : CL S) (hU : US S T V X Y Z q) (hq : q ≤ 1500) (h15 : kK S 15 = 0) (hT : TJ S N) (hdp : dp + fu = 61) (hlv : lv ≤ dp) (hY2 : Y + (6 * fu + 372) ≤ 900) (hE : TC S tr mk N) (hO : TO S tr N) (hrk : RKs tr rk N) (hn : n9 < N) (htp : top < N) (h11 : S.1 11 = nI top) (hcv : ∀ j, Cv gs tr top j n9) (hz : KT S z) (hkq : KQ S z) (hm0 : KM0 S tm) (h8 : S.1 8 = nI tm) (htm : tm + 1501 + cntT tr fu n9 ≤ 2 ^ 29 + stp z) (h0 : sto z = 0) (hzq : stp z = q) (h13 : S.1 13 = -9) (hk2 : kK S 23 = 120 ∧ kK S 24 = 120) (hgc : GC gs z S) (Hs : Heap), Met l yX5_typed (wC yX5_typed cX5_typed 5 (some .int)) (cRm S (2 * fu + 140) (60 * fu + 6500)) (cPc G S Hs [.ref (ga G 4), .int (nI n9), .int (nI lv), .int (nI dp)]) (cQi G S Hs (fun v u => AW [6, 7, 8, 9, 16, 14, 10, 11, 12, 13, 17, 18, 23, 24, 25, 26, 35] [8, 9, 10, 12, 13] S u ∧ (TX u T V Y q (6 * fu + 372) v ∧ YE S u Y tm (cntT tr fu n9) gs z (ty tr top fu z n9 lv) v))) (CC - PT S) (12 * (CC - PT S)) (cA G S Hs.size)

set_option maxHeartbeats 4000000 in
set_option maxRecDepth 100000 in
/-- typedFunction -/
theorem x_typedFunction (l : Launch) (G : cG) (S : cS) (fu : Nat) (T : Nat) (V : Nat) (X : Nat) (Y : Nat) (Z : Nat) (q : Nat) (N : Nat) (dp : Nat) (lv : Nat) (tr : aM) (mk : Nat → Int32) (rk : Nat → Nat) (top : Nat) (gs : Nat → Prop) (z : aS) (n9 : Nat) (tm : Nat) (hC : CL S) (ih : xTypedAt fu) (hU : US S T V X Y Z q) (hq : q ≤ 1500) (h15 : kK S 15 = 0) (hT : TJ S N) (hdp : dp + (fu + 1) = 61) (hlv : lv ≤ dp) (hY2 : Y + (6 * (fu + 1) + 372) ≤ 900) (hE : TC S tr mk N) (hO : TO S tr N) (hrk : RKs tr rk N) (hn : n9 < N) (htp : top < N) (h11 : S.1 11 = nI top) (hcv : ∀ j, Cv gs tr top j n9) (hz : KT S z) (hkq : KQ S z) (hm0 : KM0 S tm) (h8 : S.1 8 = nI tm) (htm : tm + 1501 + cntT tr ((fu + 1)) n9 ≤ 2 ^ 29 + stp z) (h0 : sto z = 0) (hzq : stp z = q) (h13 : S.1 13 = -9) (hk2 : kK S 23 = 120 ∧ kK S 24 = 120) (hgc : GC gs z S) (hkd : tr 0 n9 = 3) (Hs : Heap) : Met l yX5_typedFunction (wC yX5_typedFunction cX5_typedFunction 6 (some .int)) (cRm S (2 * fu + 141) (60 * fu + 6530)) (cPc G S Hs [.ref (ga G 4), .int (nI n9), .int (nI lv), .int (nI dp)]) (cQi G S Hs (fun v u => AW [6, 7, 8, 9, 16, 14, 10, 11, 12, 13, 17, 18, 23, 24, 25, 26, 35] [8, 9, 10, 12, 13] S u ∧ (TX u T V Y q (6 * (fu + 1) + 372) v ∧ YF S u Y tm (cntT tr (fu + 1) n9) gs n9 z (ty tr top (fu + 1) z n9 lv) v))) (CC - PT S) (12 * (CC - PT S)) (cA G S Hs.size) := by
  refine Met.ofW (cc := cX5_typedFunction) (maxL := 6) (ret := (some .int)) (by decide) rfl ?_
  intro p e s m args below meth c s₁ B hml hv
  obtain ⟨rfl, hsz, hP, hK, hD0, -⟩ := hv
  have hx := B.exec
  have hb := B.bytes
  have hr := B.returns
  have htu : ∀ w ∈ CU, w.before _ s = true := fun w h => atoms_spec (ws := (wC yX5_typedFunction cX5_typedFunction 6 (some .int))) B.pre w (List.mem_cons_of_mem _ h)
  have hown : s.vm.findClass RX5 = some m.cls := findClass_of_methodNamed B.named
  have hlocks := B.notSynchronized
  subst hsz
  have hD : cD (cA G S s.heap.size) G S := cD_self hD0
  have hl := lv_entry ([.ref (ga G 4), .int (nI n9), .int (nI lv), .int (nI dp)]) (n := 6) (Nat.le_of_ble_eq_true rfl)
  rw [lg_entry_eq]
  generalize (lg_sl ([.ref (ga G 4), .int (nI n9), .int (nI lv), .int (nI dp)]) ++ List.replicate (6 - (lg_sl ([.ref (ga G 4), .int (nI n9), .int (nI lv), .int (nI dp)])).length) Slot.unset).toArray = ls at hl ⊢
  have hl : lv_has ls 6 [(0, .ref (ga G 4)), (1, .int (nI n9)), (2, .int (nI lv)), (3, .int (nI dp))] := hl
  obtain ⟨H, hHe⟩ : ∃ H : Heap, H = s.heap := ⟨_, rfl⟩
  rw [← hHe] at hP
  have hS : va_S (cA G S s.heap.size) s.heap H [] := by rw [hHe]; exact va_S.rf
  have hh : HS S S := HS.rf
  have hpp : PT S ≤ PT S := Nat.le_refl _
  have hB9 := hC.1
  refine W.heq hHe ?_
  refine c_ent (S := S) ?_
  obtain ⟨tT, tV, tB, tX⟩ := id hU.1.2.1
  have yc0 : YC S S Y tm 0 gs z z tm gs := ⟨hz, hkq, hm0, h8, ⟨Nat.le_refl _, Nat.le_refl _, by omega⟩, fun _ _ => ⟨rfl, rfl⟩, hk2, fun _ => ⟨fun _ h => h, hgc⟩⟩
  have hp9 : prts (tr 0 n9) (tr 2 n9) = 1 := by rw [hkd]; rfl
  obtain ⟨Y1, Y2, Y3, Y4, Y5, e1, e2, e3, e4, e5, er⟩ := ty_3 (top := top) (k := fu) (l := lv) h0 hkd
  have hct := cnt_1 (tr := tr) (k := fu) (n := n9) (m := 0) hp9
  refine lv_aload_n hx hb dX5_typedFunction_0 rfl (lv_at hl 0 rfl) ?_
  refine va_get (D := gD G) (ci := 5) (v := .ref (ga G 2)) (C := RX5) (T := TX5) (N := 15) hx hb htu cu_in5 hown hK hP 4 cw_4 rfl 1 (by decide) (htu _ C_45) (fun _ h9 => h9) rfl dX5_typedFunction_1 ?_
  refine lv_iload_n hx hb dX5_typedFunction_4 rfl (lv_at hl 2 rfl) ?_
  have ya_1 := yc_askn yc0 n9
  have ya_1T : nT z = T := yc0.1.1.1.symm.trans hU.1.1.1
  have hC0 := hC
  refine c_ci (c_runV (As := [.int (nI lv)]) (rest := []) (q0 := 2) (ci := 4) ⟨hx, hb, hml, hown, htu⟩ (x_addVariable l G S T V V X Y Z ((w1 z 0 5 n9)) lv hC hU.1 rfl ya_1.1 ((by omega)) H) (cwV 1 htu hU_X5_137 rfl rfl rfl (by decide +kernel) ⟨show 4 + 1 ≤ 2 * fu + 141 by omega, show 8 + (4 + 11) + 128 ≤ 60 * fu + 6530 by omega⟩) hP hK hD hC hpp cw_2 rfl rfl hl.1 rfl (lv_room (Nat.le_of_ble_eq_true rfl)) dX5_typedFunction_5) hS hD hh hpp (fun r_2 S_3 H locs hw_4 hP hD hS hC hh hs_5 hpq => ?_)
  clear hpp
  have hpp := hpq
  clear hpq
  try dsimp only at hw_4
  have aw_6 : AW [6, 7, 8, 9, 16, 14, 35] [] S S_3 := hw_4.1
  have aw_6t : AW [6, 7, 8, 9, 16, 14, 10, 11, 12, 13, 17, 18, 23, 24, 25, 26, 35] [8, 9, 10, 12, 13] S S_3 := AW.rf.tr (aw_6.mono (by decide) (by decide))
  have kk_7 : kK S_3 15 = 0 := (aw_6.2.1 15 (lt35 (by decide)) (by decide)).2.trans h15
  have tj_8 : TJ S_3 N := TJ.aw hT aw_6 (by decide)
  have hw_49 := hw_4.2
  clear hw_4
  rcases hw_49 with ⟨ty_9v, ty_9s, ty_9f⟩ | ⟨ty_9v, ty_9t, ty_9, ty_9o, ty_94, ty_98, ⟨ty_9q, ty_9w, ty_9x, ty_9y⟩, ⟨ty_9150, ty_9kt⟩, ty_9l⟩
  · skip
    subst ty_9v
    have ty_9Y : Y1 = (stops (w1 z 0 5 n9) 1 n9, 0) := e1.trans (fresh_f h0 ty_9f)
    have ty_9yc : YC S S_3 Y tm 0 gs z Y1.1 tm gs := by rw [ty_9Y, ty_9s]; exact yc_stops ya_1 1 n9 (by decide) h0
    have ty_9st : sto Y1.1 = 1 := by rw [ty_9Y]; exact sto_sp9 (s := w1 z 0 5 n9) h0
    have ty_9zz : sto Y1.1 ≠ 0 := by rw [ty_9st]; decide
    have ty_9hv : (-6 : Int32) = sc (sto Y1.1) := by rw [ty_9st]; rfl
    have ty_9pl : PL S_3 Y1.1 n9 := by rw [ty_9Y, ty_9s]; exact pl_stops (w := w1 z 0 5 n9) h0 h13
    have ty_9tx : TX S_3 T V Y q (6 * (fu + 1) + 372) (-6) := by rw [ty_9s]; exact US.txb hU (by omega) (by omega) (by decide)
    refine lv_istore (lv' := [(4, .int ((-6))), (0, .ref (ga G 4)), (1, .int (nI n9)), (2, .int (nI lv)), (3, .int (nI dp))]) hx hb dX5_typedFunction_8 hl (by decide) rfl (fun ls hl => ?_)
    refine lv_iload hx hb dX5_typedFunction_10 (lv_at hl 0 rfl) ?_
    refine lv_if_ge (tgt := 18) hx hb dX5_typedFunction_12 (by decide) (fun c_10 => absurd c_10 (by decide)) (fun c_10 => ?_)
    refine lv_iload hx hb dX5_typedFunction_15 (lv_at hl 0 rfl) ?_
    have sm_11_1 : SM Y1.1 Y2 := by rw [e2]; exact (sm_gives _ _ _ _)
    have sm_11_1h : sto Y2 ≠ 0 := sm_11_1.ne ty_9zz
    have sm_11_2 : SM Y2 Y3.1 := by rw [e3]; exact (sm_ty sm_11_1h)
    have sm_11_2h : sto Y3.1 ≠ 0 := sm_11_2.ne sm_11_1h
    have sm_11_3 : SM Y3.1 Y4 := by rw [e4]; exact (sm_w _ 0 5 _ (Or.inl ⟨rfl, rfl⟩))
    have sm_11_3h : sto Y4 ≠ 0 := sm_11_3.ne sm_11_2h
    have sm_11_4 : SM Y4 Y5.1 := by rw [e5]; exact (sm_mkA _ _ sm_11_3h)
    have sm_11_4h : sto Y5.1 ≠ 0 := sm_11_4.ne sm_11_3h
    exact c_iret (v := (-6)) hx hb hr hK hP hD hS hC hh hpp ⟨aw_6t, ⟨ty_9tx, yf_bad (YC.cm ty_9yc (by omega)) ty_9zz (((sm_11_1.tr sm_11_2).tr sm_11_3).tr sm_11_4) ty_9hv ty_9pl er⟩⟩ dX5_typedFunction_17 hlocks
  · skip
    have ty_9us := US.var hU ty_9 aw_6 (by decide) ty_9w ty_9x ty_9y
    obtain ⟨ty_9ut, ty_9uv, ty_9ub, ty_9ux⟩ := id ty_9us.1.2.1
    have ty_9Y : Y1 = (newV (w1 z 0 5 n9) lv, nT z) := e1.trans (fresh_e h0 ty_9150 (by rw [ya_1T]; exact Nat.ne_of_lt ty_9t))
    have ty_9kq := kq_var (l := lv) ya_1.2.1 aw_6 (by rw [show nT (w1 z 0 5 n9) = T from ya_1T]; exact ty_9l) (ty_9.1.2.2.2.2.1.trans (by rw [show nT (w1 z 0 5 n9) = T from ya_1T]))
    have ty_9yc : YC S S_3 Y tm 0 gs z Y1.1 tm gs := by rw [ty_9Y]; exact YC.leaf ya_1 aw_6 ty_9kt ty_9kq (by decide) (by decide) (fun _ => ⟨rfl, rfl⟩) (Nat.le_succ _) rfl h0
    have ty_9z0 : sto Y1.1 = 0 := by rw [ty_9Y]; exact h0
    have ty_9sq : stp Y1.1 = q := by rw [ty_9Y]; exact hzq
    have ty_92 : Y1.2 = T := by rw [ty_9Y]; exact ya_1T
    have ty_9lt : Y1.2 < nT Y1.1 := by rw [ty_9Y]; exact Nat.lt_succ_self _
    have ty_9nm : nT z ≤ nT Y1.1 := by rw [ty_9Y]; exact Nat.le_succ _
    have ty_913 : S_3.1 13 = -9 := (aw_6.1 13 (by decide)).trans h13
    obtain rfl : r_2 = nI Y1.2 := ty_9v.trans (by rw [ty_92])
    refine lv_istore (lv' := [(4, .int (nI Y1.2)), (0, .ref (ga G 4)), (1, .int (nI n9)), (2, .int (nI lv)), (3, .int (nI dp))]) hx hb dX5_typedFunction_8 hl (by decide) rfl (fun ls hl => ?_)
    refine lv_iload hx hb dX5_typedFunction_10 (lv_at hl 0 rfl) ?_
    refine lv_if_ge (tgt := 18) hx hb dX5_typedFunction_12 (by decide) (fun c_12 => ?_) (fun c_12 => absurd (Int32.not_lt.mp (nI_n0 (by omega))) c_12)
    refine lv_aload_n hx hb dX5_typedFunction_18 rfl (lv_at hl 1 rfl) ?_
    refine lv_iload_n hx hb dX5_typedFunction_19 rfl (lv_at hl 2 rfl) ?_
    refine lv_iload hx hb dX5_typedFunction_20 (lv_at hl 0 rfl) ?_
    refine lv_iconst (v := (-1)) hx hb dX5_typedFunction_22 (by decide) ?_
    have hC0 := hC
    refine c_cv (c_runV (As := [.int (nI n9), .int (nI Y1.2), .int ((-1))]) (rest := []) (q0 := 4) (ci := 5) ⟨hx, hb, hml, hown, htu⟩ (xk_gives l G S_3 n9 (nI Y1.2) ((-1)) hC ty_9yc.2.2.2.2.2.2.1.1 ty_9yc.2.2.2.2.2.2.1.2 ((Nat.lt_of_lt_of_le hn hT.1.1)) H) (cwV 3 htu hU_X5_140 rfl rfl rfl (by decide +kernel) ⟨show 1 + 1 ≤ 2 * fu + 141 by omega, show 8 + (4 + 11) + 22 ≤ 60 * fu + 6530 by omega⟩) hP hK hD hC hpp cw_4 rfl rfl hl.1 rfl (lv_room (Nat.le_of_ble_eq_true rfl)) dX5_typedFunction_23) hS hD hh hpp (fun S_14 H locs hw_15 hP hD hS hC hh hs_16 hpq => ?_)
    clear hpp
    have hpp := hpq
    clear hpq
    try dsimp only at hw_15
    have aw_17 : AW [23, 24] [] S_3 S_14 := hw_15.1
    have aw_17t : AW [6, 7, 8, 9, 16, 14, 10, 11, 12, 13, 17, 18, 23, 24, 25, 26, 35] [8, 9, 10, 12, 13] S S_14 := aw_6t.tr (aw_17.mono (by decide) (by decide))
    have kk_18 : kK S_14 15 = 0 := (aw_17.2.1 15 (lt35 (by decide)) (by decide)).2.trans kk_7
    have tj_19 : TJ S_14 N := TJ.aw tj_8 aw_17 (by decide)
    obtain ⟨gi_20k, gi_2023, gi_2024⟩ := hw_15.2
    have us_21 := US.aw ty_9us aw_17 (by decide) (by decide)
    have gi_20gc : GC (fun q => q = n9 ∨ gs q) Y2 S_14 := by rw [e2]; exact gc_gives (ty_9yc.2.2.2.2.2.2.2 ty_9z0).2 (Nat.lt_of_lt_of_le hn hT.1.1) gi_2023 gi_2024 rfl ty_9lt rfl (by omega)
    have gi_20sm : SM Y1.1 Y2 := (by rw [e2]; exact sm_gives _ _ _ _)
    have gi_20yc := yc_give ty_9yc aw_17 (by decide) (by decide) gi_20k gi_20sm ty_9z0 (fun q hq => Or.inr hq) gi_20gc
    have gi_20z : sto Y2 = 0 := gi_20sm.st.trans ty_9z0
    have gi_20sq : stp Y2 = q := gi_20sm.sp.trans ty_9sq
    have gi_2013 : S_14.1 13 = -9 := (aw_17.1 13 (by decide)).trans ty_913
    have vl_22 : Y1.2 < nT Y2 := by rw [gi_20sm.n]; exact ty_9lt
    refine lv_aload_n hx hb dX5_typedFunction_26 rfl (lv_at hl 1 rfl) ?_
    refine lv_aload_n hx hb dX5_typedFunction_27 rfl (lv_at hl 1 rfl) ?_
    refine va_get (D := gD G) (ci := 5) (v := .ref (ga G 1)) (C := RX5) (T := TX5) (N := 15) hx hb htu cu_in5 hown hK hP 4 cw_4 rfl 0 (by decide) (htu _ C_60) (fun _ h9 => h9) rfl dX5_typedFunction_28 ?_
    refine lv_iload_n hx hb dX5_typedFunction_31 rfl (lv_at hl 2 rfl) ?_
    refine lv_iconst (v := 0) hx hb dX5_typedFunction_32 (by decide) ?_
    have hC0 := hC
    refine c_ci (c_runV (As := [.int (nI n9), .int 0]) (rest := [.ref (ga G 4)]) (q0 := 1) (ci := 3) ⟨hx, hb, hml, hown, htu⟩ (tt_partOf l G S_14 N (nI n9) 0 hC tj_19.1 H) (cwV 2 htu hU_X5_144 rfl rfl rfl (by decide +kernel) ⟨show 1 + 1 ≤ 2 * fu + 141 by omega, show 8 + (3 + 11) + 21 ≤ 60 * fu + 6530 by omega⟩) hP hK hD hC hpp cw_1 rfl rfl hl.1 rfl (lv_room (Nat.le_of_ble_eq_true rfl)) dX5_typedFunction_33) hS hD hh hpp (fun r_23 S_24 H locs hw_25 hP hD hS hC hh hs_26 hpq => ?_)
    clear hpp
    have hpp := hpq
    clear hpq
    obtain ⟨-, hu9, hw_25⟩ := hw_25
    have hu9 := hu9.symm
    subst hu9
    obtain rfl : r_23 = nI (tr 10 n9) := hw_25.trans ((hE.aw aw_17t (by decide)).part hn (i := 0) (by rw [hp9]; decide))
    refine lv_iload_n hx hb dX5_typedFunction_36 rfl (lv_at hl 3 rfl) ?_
    refine lv_iload_n hx hb dX5_typedFunction_37 rfl (lv_at hl 4 rfl) ?_
    refine lv_iconst (v := 1) hx hb dX5_typedFunction_38 (by decide) ?_
    refine lv_iadd hx hb dX5_typedFunction_39 ?_
    refine m_top (y := nI (dp + 1)) (nI_add dp 1) ?_
    have hC0 := hC
    refine c_ci (c_runV (As := [.int (nI (tr 10 n9)), .int (nI lv), .int (nI (dp + 1))]) (rest := []) (q0 := 4) (ci := 5) ⟨hx, hb, hml, hown, htu⟩ (ih l G S_14 ((T + 1)) ((V + 1)) X Y Z q N ((dp + 1)) lv tr mk rk top ((fun q => q = n9 ∨ gs q)) Y2 ((tr 10 n9)) tm hC us_21 ((by omega)) kk_18 tj_19 ((by omega)) ((by omega)) ((by omega)) ((hE.aw aw_17t (by decide))) ((hO.aw aw_17t (by decide))) hrk ((hE.plt hn (i := 0) (by rw [hp9]; decide))) htp (((aw_17t.1 11 (by decide)).trans h11)) ((Cv.part hcv ((hO n9 hn).2.2.1 0 (by rw [hp9]; decide)) (gi_20yc.2.2.2.2.2.2.2 gi_20z).1 (fun _ => Or.inl rfl))) gi_20yc.1 gi_20yc.2.1 gi_20yc.2.2.1 gi_20yc.2.2.2.1 ((by have := gi_20yc.2.2.2.2.1; omega)) gi_20z gi_20sq gi_2013 gi_20yc.2.2.2.2.2.2.1 ((gi_20yc.2.2.2.2.2.2.2 gi_20z).2) H) (cwV 3 htu hU_X5_77 rfl rfl rfl (by decide +kernel) ⟨show (2 * fu + 140) + 1 ≤ 2 * fu + 141 by omega, show 8 + (5 + 11) + (60 * fu + 6500) ≤ 60 * fu + 6530 by omega⟩) hP hK hD hC hpp cw_4 rfl rfl hl.1 rfl (lv_room (Nat.le_of_ble_eq_true rfl)) dX5_typedFunction_40) hS hD hh hpp (fun r_27 S_28 H locs hw_29 hP hD hS hC hh hs_30 hpq => ?_)
    clear hpp
    have hpp := hpq
    clear hpq
    try dsimp only at hw_29
    have aw_31 : AW [6, 7, 8, 9, 16, 14, 10, 11, 12, 13, 17, 18, 23, 24, 25, 26, 35] [8, 9, 10, 12, 13] S_14 S_28 := hw_29.1
    have aw_31t : AW [6, 7, 8, 9, 16, 14, 10, 11, 12, 13, 17, 18, 23, 24, 25, 26, 35] [8, 9, 10, 12, 13] S S_28 := aw_17t.tr (aw_31.mono (by decide) (by decide))
    have kk_32 : kK S_28 15 = 0 := (aw_31.2.1 15 (lt35 (by decide)) (by decide)).2.trans kk_18
    have tj_33 : TJ S_28 N := TJ.aw tj_19 aw_31 (by decide)
    obtain ⟨tx_34A, tx_34E⟩ := hw_29.2
    clear hw_29
    rw [← e3] at tx_34E
    obtain ⟨⟨tx_34t, tx_34gs, tx_34y0⟩, tx_34g, tx_34b⟩ := tx_34E
    have tx_34yc := YC.tr gi_20yc tx_34y0 (show Y ≤ Y by omega) gi_20z
    have nm_35 : nT Y2 ≤ nT Y3.1 := by rw [e3]; exact (x_ty _ _ _ _ _ _).1
    have vl_36 : Y1.2 < nT Y3.1 := Nat.lt_of_lt_of_le vl_22 nm_35
    rcases Nat.eq_zero_or_pos (sto Y3.1) with tx_34z | tx_34z
    · skip
      obtain ⟨tx_34v, tx_34x, tx_3412, tx_3413⟩ := tx_34g tx_34z
      subst tx_34v
      have tx_346 := tx_34yc.1.1.2.2.2.2.2.2.2.1
      have tx_340 : 0 ≤ nI Y3.2 := Int32.not_lt.mp (nI_n0 (by omega))
      obtain ⟨tx_34T, tx_34V, tx_34X, tx_34Z, tx_34q, tx_34u, tx_341, tx_342, tx_343, tx_344⟩ := tx_34A.ok tx_340
      obtain ⟨tx_34tT, tx_34tV, tx_34tB, tx_34tX⟩ := id tx_34u.1.2.1
      have tx_34sq : stp Y3.1 = tx_34q := (nI_eq (by have := tx_34yc.2.2.2.2.1; omega) (by omega)).mp (tx_3412.symm.trans tx_34u.2.1)
      clear tx_34g tx_34b tx_34A
      refine lv_istore (lv' := [(5, .int (nI Y3.2)), (4, .int (nI Y1.2)), (0, .ref (ga G 4)), (1, .int (nI n9)), (2, .int (nI lv)), (3, .int (nI dp))]) hx hb dX5_typedFunction_43 hl (by decide) rfl (fun ls hl => ?_)
      refine lv_iload hx hb dX5_typedFunction_45 (lv_at hl 0 rfl) ?_
      refine lv_if_ge (tgt := 55) hx hb dX5_typedFunction_47 (by decide) (fun c_37 => ?_) (fun c_37 => absurd (Int32.not_lt.mp (nI_n0 (by omega))) c_37)
      refine lv_aload_n hx hb dX5_typedFunction_55 rfl (lv_at hl 2 rfl) ?_
      refine va_get (D := gD G) (ci := 5) (v := .ref (ga G 2)) (C := RX5) (T := TX5) (N := 15) hx hb htu cu_in5 hown hK hP 4 cw_4 rfl 1 (by decide) (htu _ C_45) (fun _ h9 => h9) rfl dX5_typedFunction_56 ?_
      refine lv_iload hx hb dX5_typedFunction_59 (lv_at hl 1 rfl) ?_
      refine lv_iload hx hb dX5_typedFunction_61 (lv_at hl 0 rfl) ?_
      have w5_38 : YC S S_28 Y tm (0 + cntT tr fu (tr 10 n9)) gs z Y4 tx_34t tx_34gs := by rw [e4]; exact yc_askn tx_34yc n9
      have w5_380 : sto Y4 = 0 := by rw [e4]; exact tx_34z
      have w5_38s : stp Y4 = tx_34q := by rw [e4]; exact tx_34sq
      have w5_38n : nT Y4 = nT Y3.1 := by rw [e4]; rfl
      have vl_39 : Y1.2 < nT Y4 := by rw [w5_38n]; exact vl_36
      have vl_40 : Y3.2 < nT Y4 := by rw [w5_38n]; exact tx_34x
      have ya_41T : nT Y4 = tx_34T := w5_38.1.1.1.symm.trans tx_34u.1.1.1
      have hC0 := hC
      refine c_ci (c_runV (As := [.int (nI Y1.2), .int (nI Y3.2)]) (rest := []) (q0 := 2) (ci := 4) ⟨hx, hb, hml, hown, htu⟩ (x_addFunction l G S_28 tx_34T tx_34V tx_34V tx_34X Y tx_34Z Y1.2 Y3.2 Y4 hC tx_34u.1 w5_38.1 w5_380 vl_39 vl_40 H) (cwV 2 htu hU_X5_147 rfl rfl rfl (by decide +kernel) ⟨show 4 + 1 ≤ 2 * fu + 141 by omega, show 8 + (3 + 11) + 128 ≤ 60 * fu + 6530 by omega⟩) hP hK hD hC hpp cw_2 rfl rfl hl.1 rfl (lv_room (Nat.le_of_ble_eq_true rfl)) dX5_typedFunction_63) hS hD hh hpp (fun r_42 S_43 H locs hw_44 hP hD hS hC hh hs_45 hpq => ?_)
      clear hpp
      have hpp := hpq
      clear hpq
      try dsimp only at hw_44
      have aw_46 : AW [6, 7, 8, 9, 16] [] S_28 S_43 := hw_44.1
      have aw_46t : AW [6, 7, 8, 9, 16, 14, 10, 11, 12, 13, 17, 18, 23, 24, 25, 26, 35] [8, 9, 10, 12, 13] S S_43 := aw_31t.tr (aw_46.mono (by decide) (by decide))
      have kk_47 : kK S_43 15 = 0 := (aw_46.2.1 15 (lt35 (by decide)) (by decide)).2.trans kk_32
      have tj_48 : TJ S_43 N := TJ.aw tj_33 aw_46 (by decide)
      have hw_449 := hw_44.2
      clear hw_44
      rcases hw_449 with ⟨ty_49v, ty_49s, ty_49f⟩ | ⟨ty_49v, ty_49t, ty_49, ty_49o, ⟨ty_49kt, ty_49k2, ty_49k0⟩, ty_49l⟩
      · skip
        subst ty_49v
        have ty_49ask : askn Y4 = n9 := (by rw [e4]; rfl)
        have ty_49Y : Y5 = (stops Y4 1 n9, 0) := e5.trans (by rw [mkA_f w5_380 ty_49f, ty_49ask])
        have ty_49yc : YC S S_43 Y tm (0 + cntT tr fu (tr 10 n9)) gs z Y5.1 tx_34t tx_34gs := by rw [ty_49Y, ty_49s]; exact yc_stops w5_38 1 n9 (by decide) w5_380
        have ty_49st : sto Y5.1 = 1 := by rw [ty_49Y]; exact sto_sp9 w5_380
        have ty_49zz : sto Y5.1 ≠ 0 := by rw [ty_49st]; decide
        have ty_49hv : (-6 : Int32) = sc (sto Y5.1) := by rw [ty_49st]; rfl
        have ty_49pl : PL S_43 Y5.1 n9 := by rw [ty_49Y, ty_49s]; exact pl_stops w5_380 tx_3413
        have ty_49tx : TX S_43 T V Y q (6 * (fu + 1) + 372) (-6) := by rw [ty_49s]; exact US.txb tx_34u (by omega) (by omega) (by decide)
        exact c_iret (v := (-6)) hx hb hr hK hP hD hS hC hh hpp ⟨aw_46t, ⟨ty_49tx, yf_bad (YC.cm ty_49yc (by omega)) ty_49zz SM.rf ty_49hv ty_49pl er⟩⟩ dX5_typedFunction_66 hlocks
      · skip
        have ty_49us := US.ty tx_34u ty_49 aw_46 (by decide) (by decide)
        obtain ⟨ty_49ut, ty_49uv, ty_49ub, ty_49ux⟩ := id ty_49us.1.2.1
        have ty_49nt : nT (mkA Y4 Y1.2 Y3.2).1 = nT Y4 + 1 := by rw [mkA_e w5_380 (by rw [ya_41T]; exact Nat.ne_of_lt ty_49t)]; rfl
        have ty_49kq := kq_fun (a := Y1.2) (b := Y3.2) w5_38.2.1 aw_46 (by rw [ya_41T]; exact ty_49l) (ty_49.1.2.2.2.2.1.trans (by rw [ya_41T])) w5_380 (by rw [ya_41T]; exact Nat.ne_of_lt ty_49t)
        have ty_49yc : YC S S_43 Y tm (0 + cntT tr fu (tr 10 n9)) gs z Y5.1 tx_34t tx_34gs := by rw [e5]; exact YC.leaf w5_38 aw_46 ty_49kt ty_49kq (by decide) (by decide) (k_mkA _ _ _) (Nat.le_of_lt (by rw [ty_49nt]; exact Nat.lt_succ_self _)) ((wc_mkA _ _ _).2) w5_380
        have ty_49z0 : sto Y5.1 = 0 := by rw [e5]; exact ty_49k0
        have ty_49sq : stp Y5.1 = tx_34q := by rw [e5]; exact ((wc_mkA _ _ _).2).trans w5_38s
        have ty_492 : Y5.2 = tx_34T := by rw [e5]; exact ty_49k2
        have ty_49nm : nT Y4 ≤ nT Y5.1 := by rw [e5, ty_49nt]; exact Nat.le_succ _
        have ty_49lt : Y5.2 < nT Y5.1 := by rw [ty_492, e5, ty_49nt, ya_41T]; exact Nat.lt_succ_self _
        have ty_4913 : S_43.1 13 = -9 := (aw_46.1 13 (by decide)).trans tx_3413
        obtain rfl : r_42 = nI Y5.2 := ty_49v.trans (by rw [ty_492])
        have vl_51 : Y1.2 < nT Y5.1 := Nat.lt_of_lt_of_le vl_39 ty_49nm
        have vl_52 : Y3.2 < nT Y5.1 := Nat.lt_of_lt_of_le vl_40 ty_49nm
        exact c_iret (v := nI Y5.2) hx hb hr hK hP hD hS hC hh hpp ⟨aw_46t, ⟨US.tx ty_49us (by omega) _, yf_good (YC.cm ty_49yc (by omega)) ty_49z0 rfl ty_49lt (ty_49us.2.1.trans (by rw [ty_49sq])) ty_4913 er⟩⟩ dX5_typedFunction_66 hlocks
    · skip
      have tx_34zz : sto Y3.1 ≠ 0 := Nat.ne_of_gt tx_34z
      obtain ⟨tx_34v, tx_34p⟩ := tx_34b tx_34zz
      have tx_34nn : ¬ 0 ≤ r_27 := Int32.not_le.mpr (by rw [tx_34v]; exact sc_neg tx_34zz)
      clear tx_34g tx_34b
      refine lv_istore (lv' := [(5, .int r_27), (4, .int (nI Y1.2)), (0, .ref (ga G 4)), (1, .int (nI n9)), (2, .int (nI lv)), (3, .int (nI dp))]) hx hb dX5_typedFunction_43 hl (by decide) rfl (fun ls hl => ?_)
      refine lv_iload hx hb dX5_typedFunction_45 (lv_at hl 0 rfl) ?_
      refine lv_if_ge (tgt := 55) hx hb dX5_typedFunction_47 (by decide) (fun c_53 => absurd c_53 tx_34nn) (fun c_53 => ?_)
      refine lv_iload hx hb dX5_typedFunction_50 (lv_at hl 0 rfl) ?_
      refine lv_goto (tgt := 66) hx hb dX5_typedFunction_52 (by decide) ?_
      have sm_54_3 : SM Y3.1 Y4 := by rw [e4]; exact (sm_w _ 0 5 _ (Or.inl ⟨rfl, rfl⟩))
      have sm_54_3h : sto Y4 ≠ 0 := sm_54_3.ne tx_34zz
      have sm_54_4 : SM Y4 Y5.1 := by rw [e5]; exact (sm_mkA _ _ sm_54_3h)
      have sm_54_4h : sto Y5.1 ≠ 0 := sm_54_4.ne sm_54_3h
      exact c_iret (v := r_27) hx hb hr hK hP hD hS hC hh hpp ⟨aw_31t, ⟨(TX.bad tx_34A (by omega) (Int32.not_le.mp tx_34nn)), yf_bad (YC.cm tx_34yc (by omega)) tx_34zz (sm_54_3.tr sm_54_4) tx_34v (Or.inl tx_34p) er⟩⟩ dX5_typedFunction_66 hlocks

set_option maxHeartbeats 4000000 in
set_option maxRecDepth 100000 in
/-- typedApply -/
theorem x_typedApply (l : Launch) (G : cG) (S : cS) (fu : Nat) (T : Nat) (V : Nat) (X : Nat) (Y : Nat) (Z : Nat) (q : Nat) (N : Nat) (dp : Nat) (lv : Nat) (tr : aM) (mk : Nat → Int32) (rk : Nat → Nat) (top : Nat) (gs : Nat → Prop) (z : aS) (n9 : Nat) (tm : Nat) (hC : CL S) (ih : xTypedAt fu) (hU : US S T V X Y Z q) (hq : q ≤ 1500) (h15 : kK S 15 = 0) (hT : TJ S N) (hdp : dp + (fu + 1) = 61) (hlv : lv ≤ dp) (hY2 : Y + (6 * (fu + 1) + 372) ≤ 900) (hE : TC S tr mk N) (hO : TO S tr N) (hrk : RKs tr rk N) (hn : n9 < N) (htp : top < N) (h11 : S.1 11 = nI top) (hcv : ∀ j, Cv gs tr top j n9) (hz : KT S z) (hkq : KQ S z) (hm0 : KM0 S tm) (h8 : S.1 8 = nI tm) (htm : tm + 1501 + cntT tr ((fu + 1)) n9 ≤ 2 ^ 29 + stp z) (h0 : sto z = 0) (hzq : stp z = q) (h13 : S.1 13 = -9) (hk2 : kK S 23 = 120 ∧ kK S 24 = 120) (hgc : GC gs z S) (hkd : tr 0 n9 = 4) (Hs : Heap) : Met l yX5_typedApply (wC yX5_typedApply cX5_typedApply 9 (some .int)) (cRm S (2 * fu + 141) (60 * fu + 6530)) (cPc G S Hs [.ref (ga G 4), .int (nI n9), .int (nI lv), .int (nI dp)]) (cQi G S Hs (fun v u => AW [6, 7, 8, 9, 16, 14, 10, 11, 12, 13, 17, 18, 23, 24, 25, 26, 35] [8, 9, 10, 12, 13] S u ∧ (TX u T V Y q (6 * (fu + 1) + 372) v ∧ YF S u Y tm (cntT tr (fu + 1) n9) gs n9 z (ty tr top (fu + 1) z n9 lv) v))) (CC - PT S) (12 * (CC - PT S)) (cA G S Hs.size) := by
  refine Met.ofW (cc := cX5_typedApply) (maxL := 9) (ret := (some .int)) (by decide) rfl ?_
  intro p e s m args below meth c s₁ B hml hv
  obtain ⟨rfl, hsz, hP, hK, hD0, -⟩ := hv
  have hx := B.exec
  have hb := B.bytes
  have hr := B.returns
  have htu : ∀ w ∈ CU, w.before _ s = true := fun w h => atoms_spec (ws := (wC yX5_typedApply cX5_typedApply 9 (some .int))) B.pre w (List.mem_cons_of_mem _ h)
  have hown : s.vm.findClass RX5 = some m.cls := findClass_of_methodNamed B.named
  have hlocks := B.notSynchronized
  subst hsz
  have hD : cD (cA G S s.heap.size) G S := cD_self hD0
  have hl := lv_entry ([.ref (ga G 4), .int (nI n9), .int (nI lv), .int (nI dp)]) (n := 9) (Nat.le_of_ble_eq_true rfl)
  rw [lg_entry_eq]
  generalize (lg_sl ([.ref (ga G 4), .int (nI n9), .int (nI lv), .int (nI dp)]) ++ List.replicate (9 - (lg_sl ([.ref (ga G 4), .int (nI n9), .int (nI lv), .int (nI dp)])).length) Slot.unset).toArray = ls at hl ⊢
  have hl : lv_has ls 9 [(0, .ref (ga G 4)), (1, .int (nI n9)), (2, .int (nI lv)), (3, .int (nI dp))] := hl
  obtain ⟨H, hHe⟩ : ∃ H : Heap, H = s.heap := ⟨_, rfl⟩
  rw [← hHe] at hP
  have hS : va_S (cA G S s.heap.size) s.heap H [] := by rw [hHe]; exact va_S.rf
  have hh : HS S S := HS.rf
  have hpp : PT S ≤ PT S := Nat.le_refl _
  have hB9 := hC.1
  refine W.heq hHe ?_
  refine c_ent (S := S) ?_
  obtain ⟨tT, tV, tB, tX⟩ := id hU.1.2.1
  have yc0 : YC S S Y tm 0 gs z z tm gs := ⟨hz, hkq, hm0, h8, ⟨Nat.le_refl _, Nat.le_refl _, by omega⟩, fun _ _ => ⟨rfl, rfl⟩, hk2, fun _ => ⟨fun _ h => h, hgc⟩⟩
  have hp9 : prts (tr 0 n9) (tr 2 n9) = 2 := by rw [hkd]; rfl
  obtain ⟨Y1, Y2, Y3, Y4, Y5, e1, e2, e3, e4, e5, er⟩ := ty_4 (top := top) (k := fu) (l := lv) h0 hkd
  have hct := cnt_2 (tr := tr) (k := fu) (n := n9) hp9
  refine lv_aload_n hx hb dX5_typedApply_0 rfl (lv_at hl 0 rfl) ?_
  refine lv_aload_n hx hb dX5_typedApply_1 rfl (lv_at hl 0 rfl) ?_
  refine va_get (D := gD G) (ci := 5) (v := .ref (ga G 1)) (C := RX5) (T := TX5) (N := 15) hx hb htu cu_in5 hown hK hP 4 cw_4 rfl 0 (by decide) (htu _ C_60) (fun _ h9 => h9) rfl dX5_typedApply_2 ?_
  refine lv_iload_n hx hb dX5_typedApply_5 rfl (lv_at hl 1 rfl) ?_
  refine lv_iconst (v := 0) hx hb dX5_typedApply_6 (by decide) ?_
  have hC0 := hC
  refine c_ci (c_runV (As := [.int (nI n9), .int 0]) (rest := [.ref (ga G 4)]) (q0 := 1) (ci := 3) ⟨hx, hb, hml, hown, htu⟩ (tt_partOf l G S N (nI n9) 0 hC hT.1 H) (cwV 2 htu hU_X5_144 rfl rfl rfl (by decide +kernel) ⟨show 1 + 1 ≤ 2 * fu + 141 by omega, show 8 + (3 + 11) + 21 ≤ 60 * fu + 6530 by omega⟩) hP hK hD hC hpp cw_1 rfl rfl hl.1 rfl (lv_room (Nat.le_of_ble_eq_true rfl)) dX5_typedApply_7) hS hD hh hpp (fun r_1 S_2 H locs hw_3 hP hD hS hC hh hs_4 hpq => ?_)
  clear hpp
  have hpp := hpq
  clear hpq
  obtain ⟨-, hu9, hw_3⟩ := hw_3
  have hu9 := hu9.symm
  subst hu9
  obtain rfl : r_1 = nI (tr 10 n9) := hw_3.trans ((hE.aw (AW.rf (rs := []) (is := [])) (by decide)).part hn (i := 0) (by rw [hp9]; decide))
  refine lv_iload_n hx hb dX5_typedApply_10 rfl (lv_at hl 2 rfl) ?_
  refine lv_iload_n hx hb dX5_typedApply_11 rfl (lv_at hl 3 rfl) ?_
  refine lv_iconst (v := 1) hx hb dX5_typedApply_12 (by decide) ?_
  refine lv_iadd hx hb dX5_typedApply_13 ?_
  refine m_top (y := nI (dp + 1)) (nI_add dp 1) ?_
  have hC0 := hC
  refine c_ci (c_runV (As := [.int (nI (tr 10 n9)), .int (nI lv), .int (nI (dp + 1))]) (rest := []) (q0 := 4) (ci := 5) ⟨hx, hb, hml, hown, htu⟩ (ih l G S T V X Y Z q N ((dp + 1)) lv tr mk rk top gs z ((tr 10 n9)) tm hC hU ((by omega)) h15 hT ((by omega)) ((by omega)) ((by omega)) ((hE.aw (AW.rf (rs := []) (is := [])) (by decide))) ((hO.aw (AW.rf (rs := []) (is := [])) (by decide))) hrk ((hE.plt hn (i := 0) (by rw [hp9]; decide))) htp ((((AW.rf (rs := []) (is := [])).1 11 (by decide)).trans h11)) ((Cv.part hcv ((hO n9 hn).2.2.1 0 (by rw [hp9]; decide)) (yc0.2.2.2.2.2.2.2 h0).1 (fun h => by unfold covers at h; omega))) yc0.1 yc0.2.1 yc0.2.2.1 yc0.2.2.2.1 ((by have := yc0.2.2.2.2.1; omega)) h0 hzq h13 yc0.2.2.2.2.2.2.1 ((yc0.2.2.2.2.2.2.2 h0).2) H) (cwV 3 htu hU_X5_77 rfl rfl rfl (by decide +kernel) ⟨show (2 * fu + 140) + 1 ≤ 2 * fu + 141 by omega, show 8 + (5 + 11) + (60 * fu + 6500) ≤ 60 * fu + 6530 by omega⟩) hP hK hD hC hpp cw_4 rfl rfl hl.1 rfl (lv_room (Nat.le_of_ble_eq_true rfl)) dX5_typedApply_14) hS hD hh hpp (fun r_5 S_6 H locs hw_7 hP hD hS hC hh hs_8 hpq => ?_)
  clear hpp
  have hpp := hpq
  clear hpq
  try dsimp only at hw_7
  have aw_9 : AW [6, 7, 8, 9, 16, 14, 10, 11, 12, 13, 17, 18, 23, 24, 25, 26, 35] [8, 9, 10, 12, 13] S S_6 := hw_7.1
  have aw_9t : AW [6, 7, 8, 9, 16, 14, 10, 11, 12, 13, 17, 18, 23, 24, 25, 26, 35] [8, 9, 10, 12, 13] S S_6 := AW.rf.tr (aw_9.mono (by decide) (by decide))
  have kk_10 : kK S_6 15 = 0 := (aw_9.2.1 15 (lt35 (by decide)) (by decide)).2.trans h15
  have tj_11 : TJ S_6 N := TJ.aw hT aw_9 (by decide)
  obtain ⟨tx_12A, tx_12E⟩ := hw_7.2
  clear hw_7
  rw [← e1] at tx_12E
  obtain ⟨⟨tx_12t, tx_12gs, tx_12y0⟩, tx_12g, tx_12b⟩ := tx_12E
  have tx_12yc := YC.tr yc0 tx_12y0 (show Y ≤ Y by omega) h0
  have nm_13 : nT z ≤ nT Y1.1 := by rw [e1]; exact (x_ty _ _ _ _ _ _).1
  rcases Nat.eq_zero_or_pos (sto Y1.1) with tx_12z | tx_12z
  · skip
    obtain ⟨tx_12v, tx_12x, tx_1212, tx_1213⟩ := tx_12g tx_12z
    subst tx_12v
    have tx_126 := tx_12yc.1.1.2.2.2.2.2.2.2.1
    have tx_120 : 0 ≤ nI Y1.2 := Int32.not_lt.mp (nI_n0 (by omega))
    obtain ⟨tx_12T, tx_12V, tx_12X, tx_12Z, tx_12q, tx_12u, tx_121, tx_122, tx_123, tx_124⟩ := tx_12A.ok tx_120
    obtain ⟨tx_12tT, tx_12tV, tx_12tB, tx_12tX⟩ := id tx_12u.1.2.1
    have tx_12sq : stp Y1.1 = tx_12q := (nI_eq (by have := tx_12yc.2.2.2.2.1; omega) (by omega)).mp (tx_1212.symm.trans tx_12u.2.1)
    clear tx_12g tx_12b tx_12A
    refine lv_istore (lv' := [(4, .int (nI Y1.2)), (0, .ref (ga G 4)), (1, .int (nI n9)), (2, .int (nI lv)), (3, .int (nI dp))]) hx hb dX5_typedApply_17 hl (by decide) rfl (fun ls hl => ?_)
    refine lv_iload hx hb dX5_typedApply_19 (lv_at hl 0 rfl) ?_
    refine lv_if_ge (tgt := 27) hx hb dX5_typedApply_21 (by decide) (fun c_14 => ?_) (fun c_14 => absurd (Int32.not_lt.mp (nI_n0 (by omega))) c_14)
    refine lv_aload_n hx hb dX5_typedApply_27 rfl (lv_at hl 1 rfl) ?_
    refine lv_aload_n hx hb dX5_typedApply_28 rfl (lv_at hl 1 rfl) ?_
    refine va_get (D := gD G) (ci := 5) (v := .ref (ga G 1)) (C := RX5) (T := TX5) (N := 15) hx hb htu cu_in5 hown hK hP 4 cw_4 rfl 0 (by decide) (htu _ C_60) (fun _ h9 => h9) rfl dX5_typedApply_29 ?_
    refine lv_iload_n hx hb dX5_typedApply_32 rfl (lv_at hl 2 rfl) ?_
    refine lv_iconst (v := 1) hx hb dX5_typedApply_33 (by decide) ?_
    have hC0 := hC
    refine c_ci (c_runV (As := [.int (nI n9), .int 1]) (rest := [.ref (ga G 4)]) (q0 := 1) (ci := 3) ⟨hx, hb, hml, hown, htu⟩ (tt_partOf l G S_6 N (nI n9) 1 hC tj_11.1 H) (cwV 2 htu hU_X5_144 rfl rfl rfl (by decide +kernel) ⟨show 1 + 1 ≤ 2 * fu + 141 by omega, show 8 + (3 + 11) + 21 ≤ 60 * fu + 6530 by omega⟩) hP hK hD hC hpp cw_1 rfl rfl hl.1 rfl (lv_room (Nat.le_of_ble_eq_true rfl)) dX5_typedApply_34) hS hD hh hpp (fun r_15 S_16 H locs hw_17 hP hD hS hC hh hs_18 hpq => ?_)
    clear hpp
    have hpp := hpq
    clear hpq
    obtain ⟨-, hu9, hw_17⟩ := hw_17
    have hu9 := hu9.symm
    subst hu9
    obtain rfl : r_15 = nI (tr 11 n9) := hw_17.trans ((hE.aw aw_9t (by decide)).part hn (i := 1) (by rw [hp9]; decide))
    refine lv_iload_n hx hb dX5_typedApply_37 rfl (lv_at hl 3 rfl) ?_
    refine lv_iload_n hx hb dX5_typedApply_38 rfl (lv_at hl 4 rfl) ?_
    refine lv_iconst (v := 1) hx hb dX5_typedApply_39 (by decide) ?_
    refine lv_iadd hx hb dX5_typedApply_40 ?_
    refine m_top (y := nI (dp + 1)) (nI_add dp 1) ?_
    have hC0 := hC
    refine c_ci (c_runV (As := [.int (nI (tr 11 n9)), .int (nI lv), .int (nI (dp + 1))]) (rest := []) (q0 := 4) (ci := 5) ⟨hx, hb, hml, hown, htu⟩ (ih l G S_6 tx_12T tx_12V tx_12X Y tx_12Z tx_12q N ((dp + 1)) lv tr mk rk top tx_12gs Y1.1 ((tr 11 n9)) tx_12t hC tx_12u ((by omega)) kk_10 tj_11 ((by omega)) ((by omega)) ((by omega)) ((hE.aw aw_9t (by decide))) ((hO.aw aw_9t (by decide))) hrk ((hE.plt hn (i := 1) (by rw [hp9]; decide))) htp (((aw_9t.1 11 (by decide)).trans h11)) ((Cv.part hcv ((hO n9 hn).2.2.1 1 (by rw [hp9]; decide)) (tx_12yc.2.2.2.2.2.2.2 tx_12z).1 (fun h => by unfold covers at h; omega))) tx_12yc.1 tx_12yc.2.1 tx_12yc.2.2.1 tx_12yc.2.2.2.1 ((by have := tx_12yc.2.2.2.2.1; omega)) tx_12z tx_12sq tx_1213 tx_12yc.2.2.2.2.2.2.1 ((tx_12yc.2.2.2.2.2.2.2 tx_12z).2) H) (cwV 3 htu hU_X5_77 rfl rfl rfl (by decide +kernel) ⟨show (2 * fu + 140) + 1 ≤ 2 * fu + 141 by omega, show 8 + (5 + 11) + (60 * fu + 6500) ≤ 60 * fu + 6530 by omega⟩) hP hK hD hC hpp cw_4 rfl rfl hl.1 rfl (lv_room (Nat.le_of_ble_eq_true rfl)) dX5_typedApply_41) hS hD hh hpp (fun r_19 S_20 H locs hw_21 hP hD hS hC hh hs_22 hpq => ?_)
    clear hpp
    have hpp := hpq
    clear hpq
    try dsimp only at hw_21
    have aw_23 : AW [6, 7, 8, 9, 16, 14, 10, 11, 12, 13, 17, 18, 23, 24, 25, 26, 35] [8, 9, 10, 12, 13] S_6 S_20 := hw_21.1
    have aw_23t : AW [6, 7, 8, 9, 16, 14, 10, 11, 12, 13, 17, 18, 23, 24, 25, 26, 35] [8, 9, 10, 12, 13] S S_20 := aw_9t.tr (aw_23.mono (by decide) (by decide))
    have kk_24 : kK S_20 15 = 0 := (aw_23.2.1 15 (lt35 (by decide)) (by decide)).2.trans kk_10
    have tj_25 : TJ S_20 N := TJ.aw tj_11 aw_23 (by decide)
    obtain ⟨tx_26A, tx_26E⟩ := hw_21.2
    clear hw_21
    rw [← e2] at tx_26E
    obtain ⟨⟨tx_26t, tx_26gs, tx_26y0⟩, tx_26g, tx_26b⟩ := tx_26E
    have tx_26yc := YC.tr tx_12yc tx_26y0 (show Y ≤ Y by omega) tx_12z
    have nm_27 : nT Y1.1 ≤ nT Y2.1 := by rw [e2]; exact (x_ty _ _ _ _ _ _).1
    have vl_28 : Y1.2 < nT Y2.1 := Nat.lt_of_lt_of_le tx_12x nm_27
    rcases Nat.eq_zero_or_pos (sto Y2.1) with tx_26z | tx_26z
    · skip
      obtain ⟨tx_26v, tx_26x, tx_2612, tx_2613⟩ := tx_26g tx_26z
      subst tx_26v
      have tx_266 := tx_26yc.1.1.2.2.2.2.2.2.2.1
      have tx_260 : 0 ≤ nI Y2.2 := Int32.not_lt.mp (nI_n0 (by omega))
      obtain ⟨tx_26T, tx_26V, tx_26X, tx_26Z, tx_26q, tx_26u, tx_261, tx_262, tx_263, tx_264⟩ := tx_26A.ok tx_260
      obtain ⟨tx_26tT, tx_26tV, tx_26tB, tx_26tX⟩ := id tx_26u.1.2.1
      have tx_26sq : stp Y2.1 = tx_26q := (nI_eq (by have := tx_26yc.2.2.2.2.1; omega) (by omega)).mp (tx_2612.symm.trans tx_26u.2.1)
      clear tx_26g tx_26b tx_26A
      refine lv_istore (lv' := [(5, .int (nI Y2.2)), (4, .int (nI Y1.2)), (0, .ref (ga G 4)), (1, .int (nI n9)), (2, .int (nI lv)), (3, .int (nI dp))]) hx hb dX5_typedApply_44 hl (by decide) rfl (fun ls hl => ?_)
      refine lv_iload hx hb dX5_typedApply_46 (lv_at hl 0 rfl) ?_
      refine lv_if_ge (tgt := 54) hx hb dX5_typedApply_48 (by decide) (fun c_29 => ?_) (fun c_29 => absurd (Int32.not_lt.mp (nI_n0 (by omega))) c_29)
      refine lv_aload_n hx hb dX5_typedApply_54 rfl (lv_at hl 2 rfl) ?_
      refine va_get (D := gD G) (ci := 5) (v := .ref (ga G 2)) (C := RX5) (T := TX5) (N := 15) hx hb htu cu_in5 hown hK hP 4 cw_4 rfl 1 (by decide) (htu _ C_45) (fun _ h9 => h9) rfl dX5_typedApply_55 ?_
      refine lv_iload_n hx hb dX5_typedApply_58 rfl (lv_at hl 4 rfl) ?_
      have ya_30 := yc_askn tx_26yc n9
      have ya_30T : nT Y2.1 = tx_26T := tx_26yc.1.1.1.symm.trans tx_26u.1.1.1
      have hC0 := hC
      refine c_ci (c_runV (As := [.int (nI lv)]) (rest := []) (q0 := 2) (ci := 4) ⟨hx, hb, hml, hown, htu⟩ (x_addVariable l G S_20 tx_26T tx_26V tx_26V tx_26X Y tx_26Z ((w1 Y2.1 0 5 n9)) lv hC tx_26u.1 rfl ya_30.1 ((by omega)) H) (cwV 1 htu hU_X5_137 rfl rfl rfl (by decide +kernel) ⟨show 4 + 1 ≤ 2 * fu + 141 by omega, show 8 + (4 + 11) + 128 ≤ 60 * fu + 6530 by omega⟩) hP hK hD hC hpp cw_2 rfl rfl hl.1 rfl (lv_room (Nat.le_of_ble_eq_true rfl)) dX5_typedApply_59) hS hD hh hpp (fun r_31 S_32 H locs hw_33 hP hD hS hC hh hs_34 hpq => ?_)
      clear hpp
      have hpp := hpq
      clear hpq
      try dsimp only at hw_33
      have aw_35 : AW [6, 7, 8, 9, 16, 14, 35] [] S_20 S_32 := hw_33.1
      have aw_35t : AW [6, 7, 8, 9, 16, 14, 10, 11, 12, 13, 17, 18, 23, 24, 25, 26, 35] [8, 9, 10, 12, 13] S S_32 := aw_23t.tr (aw_35.mono (by decide) (by decide))
      have kk_36 : kK S_32 15 = 0 := (aw_35.2.1 15 (lt35 (by decide)) (by decide)).2.trans kk_24
      have tj_37 : TJ S_32 N := TJ.aw tj_25 aw_35 (by decide)
      have hw_339 := hw_33.2
      clear hw_33
      rcases hw_339 with ⟨ty_38v, ty_38s, ty_38f⟩ | ⟨ty_38v, ty_38t, ty_38, ty_38o, ty_384, ty_388, ⟨ty_38q, ty_38w, ty_38x, ty_38y⟩, ⟨ty_38150, ty_38kt⟩, ty_38l⟩
      · skip
        subst ty_38v
        have ty_38Y : Y3 = (stops (w1 Y2.1 0 5 n9) 1 n9, 0) := e3.trans (fresh_f tx_26z ty_38f)
        have ty_38yc : YC S S_32 Y tm (0 + cntT tr fu (tr 10 n9) + cntT tr fu (tr 11 n9)) gs z Y3.1 tx_26t tx_26gs := by rw [ty_38Y, ty_38s]; exact yc_stops ya_30 1 n9 (by decide) tx_26z
        have ty_38st : sto Y3.1 = 1 := by rw [ty_38Y]; exact sto_sp9 (s := w1 Y2.1 0 5 n9) tx_26z
        have ty_38zz : sto Y3.1 ≠ 0 := by rw [ty_38st]; decide
        have ty_38hv : (-6 : Int32) = sc (sto Y3.1) := by rw [ty_38st]; rfl
        have ty_38pl : PL S_32 Y3.1 n9 := by rw [ty_38Y, ty_38s]; exact pl_stops (w := w1 Y2.1 0 5 n9) tx_26z tx_2613
        have ty_38tx : TX S_32 T V Y q (6 * (fu + 1) + 372) (-6) := by rw [ty_38s]; exact US.txb tx_26u (by omega) (by omega) (by decide)
        refine lv_istore (lv' := [(6, .int ((-6))), (5, .int (nI Y2.2)), (4, .int (nI Y1.2)), (0, .ref (ga G 4)), (1, .int (nI n9)), (2, .int (nI lv)), (3, .int (nI dp))]) hx hb dX5_typedApply_62 hl (by decide) rfl (fun ls hl => ?_)
        refine lv_iload hx hb dX5_typedApply_64 (lv_at hl 0 rfl) ?_
        refine lv_if_ge (tgt := 72) hx hb dX5_typedApply_66 (by decide) (fun c_39 => absurd c_39 (by decide)) (fun c_39 => ?_)
        refine lv_iload hx hb dX5_typedApply_69 (lv_at hl 0 rfl) ?_
        have sm_40_3 : SM Y3.1 Y4.1 := by rw [e4]; exact (sm_mkA _ _ ty_38zz)
        have sm_40_3h : sto Y4.1 ≠ 0 := sm_40_3.ne ty_38zz
        have sm_40_4 : SM Y4.1 Y5 := by rw [e5]; exact (sm_puts _ _ _ sm_40_3h)
        have sm_40_4h : sto Y5 ≠ 0 := sm_40_4.ne sm_40_3h
        exact c_iret (v := (-6)) hx hb hr hK hP hD hS hC hh hpp ⟨aw_35t, ⟨ty_38tx, yf_bad (YC.cm ty_38yc (by omega)) ty_38zz (sm_40_3.tr sm_40_4) ty_38hv ty_38pl er⟩⟩ dX5_typedApply_71 hlocks
      · skip
        have ty_38us := US.var tx_26u ty_38 aw_35 (by decide) ty_38w ty_38x ty_38y
        obtain ⟨ty_38ut, ty_38uv, ty_38ub, ty_38ux⟩ := id ty_38us.1.2.1
        have ty_38Y : Y3 = (newV (w1 Y2.1 0 5 n9) lv, nT Y2.1) := e3.trans (fresh_e tx_26z ty_38150 (by rw [ya_30T]; exact Nat.ne_of_lt ty_38t))
        have ty_38kq := kq_var (l := lv) ya_30.2.1 aw_35 (by rw [show nT (w1 Y2.1 0 5 n9) = tx_26T from ya_30T]; exact ty_38l) (ty_38.1.2.2.2.2.1.trans (by rw [show nT (w1 Y2.1 0 5 n9) = tx_26T from ya_30T]))
        have ty_38yc : YC S S_32 Y tm (0 + cntT tr fu (tr 10 n9) + cntT tr fu (tr 11 n9)) gs z Y3.1 tx_26t tx_26gs := by rw [ty_38Y]; exact YC.leaf ya_30 aw_35 ty_38kt ty_38kq (by decide) (by decide) (fun _ => ⟨rfl, rfl⟩) (Nat.le_succ _) rfl tx_26z
        have ty_38z0 : sto Y3.1 = 0 := by rw [ty_38Y]; exact tx_26z
        have ty_38sq : stp Y3.1 = tx_26q := by rw [ty_38Y]; exact tx_26sq
        have ty_382 : Y3.2 = tx_26T := by rw [ty_38Y]; exact ya_30T
        have ty_38lt : Y3.2 < nT Y3.1 := by rw [ty_38Y]; exact Nat.lt_succ_self _
        have ty_38nm : nT Y2.1 ≤ nT Y3.1 := by rw [ty_38Y]; exact Nat.le_succ _
        have ty_3813 : S_32.1 13 = -9 := (aw_35.1 13 (by decide)).trans tx_2613
        obtain rfl : r_31 = nI Y3.2 := ty_38v.trans (by rw [ty_382])
        have vl_41 : Y1.2 < nT Y3.1 := Nat.lt_of_lt_of_le vl_28 ty_38nm
        have vl_42 : Y2.2 < nT Y3.1 := Nat.lt_of_lt_of_le tx_26x ty_38nm
        refine lv_istore (lv' := [(6, .int (nI Y3.2)), (5, .int (nI Y2.2)), (4, .int (nI Y1.2)), (0, .ref (ga G 4)), (1, .int (nI n9)), (2, .int (nI lv)), (3, .int (nI dp))]) hx hb dX5_typedApply_62 hl (by decide) rfl (fun ls hl => ?_)
        refine lv_iload hx hb dX5_typedApply_64 (lv_at hl 0 rfl) ?_
        refine lv_if_ge (tgt := 72) hx hb dX5_typedApply_66 (by decide) (fun c_43 => ?_) (fun c_43 => absurd (Int32.not_lt.mp (nI_n0 (by omega))) c_43)
        refine lv_aload_n hx hb dX5_typedApply_72 rfl (lv_at hl 3 rfl) ?_
        refine va_get (D := gD G) (ci := 5) (v := .ref (ga G 2)) (C := RX5) (T := TX5) (N := 15) hx hb htu cu_in5 hown hK hP 4 cw_4 rfl 1 (by decide) (htu _ C_45) (fun _ h9 => h9) rfl dX5_typedApply_73 ?_
        refine lv_iload hx hb dX5_typedApply_76 (lv_at hl 1 rfl) ?_
        refine lv_iload hx hb dX5_typedApply_78 (lv_at hl 0 rfl) ?_
        have ya_44T : nT Y3.1 = (tx_26T + 1) := ty_38yc.1.1.1.symm.trans ty_38us.1.1.1
        have hC0 := hC
        refine c_ci (c_runV (As := [.int (nI Y2.2), .int (nI Y3.2)]) (rest := []) (q0 := 2) (ci := 4) ⟨hx, hb, hml, hown, htu⟩ (x_addFunction l G S_32 ((tx_26T + 1)) ((tx_26V + 1)) ((tx_26V + 1)) tx_26X Y tx_26Z Y2.2 Y3.2 Y3.1 hC ty_38us.1 ty_38yc.1 ty_38z0 vl_42 ty_38lt H) (cwV 2 htu hU_X5_147 rfl rfl rfl (by decide +kernel) ⟨show 4 + 1 ≤ 2 * fu + 141 by omega, show 8 + (3 + 11) + 128 ≤ 60 * fu + 6530 by omega⟩) hP hK hD hC hpp cw_2 rfl rfl hl.1 rfl (lv_room (Nat.le_of_ble_eq_true rfl)) dX5_typedApply_80) hS hD hh hpp (fun r_45 S_46 H locs hw_47 hP hD hS hC hh hs_48 hpq => ?_)
        clear hpp
        have hpp := hpq
        clear hpq
        try dsimp only at hw_47
        have aw_49 : AW [6, 7, 8, 9, 16] [] S_32 S_46 := hw_47.1
        have aw_49t : AW [6, 7, 8, 9, 16, 14, 10, 11, 12, 13, 17, 18, 23, 24, 25, 26, 35] [8, 9, 10, 12, 13] S S_46 := aw_35t.tr (aw_49.mono (by decide) (by decide))
        have kk_50 : kK S_46 15 = 0 := (aw_49.2.1 15 (lt35 (by decide)) (by decide)).2.trans kk_36
        have tj_51 : TJ S_46 N := TJ.aw tj_37 aw_49 (by decide)
        have hw_479 := hw_47.2
        clear hw_47
        rcases hw_479 with ⟨ty_52v, ty_52s, ty_52f⟩ | ⟨ty_52v, ty_52t, ty_52, ty_52o, ⟨ty_52kt, ty_52k2, ty_52k0⟩, ty_52l⟩
        · skip
          subst ty_52v
          have ty_52ask : askn Y3.1 = n9 := (askn_fr e3)
          have ty_52Y : Y4 = (stops Y3.1 1 n9, 0) := e4.trans (by rw [mkA_f ty_38z0 ty_52f, ty_52ask])
          have ty_52yc : YC S S_46 Y tm (0 + cntT tr fu (tr 10 n9) + cntT tr fu (tr 11 n9)) gs z Y4.1 tx_26t tx_26gs := by rw [ty_52Y, ty_52s]; exact yc_stops ty_38yc 1 n9 (by decide) ty_38z0
          have ty_52st : sto Y4.1 = 1 := by rw [ty_52Y]; exact sto_sp9 ty_38z0
          have ty_52zz : sto Y4.1 ≠ 0 := by rw [ty_52st]; decide
          have ty_52hv : (-6 : Int32) = sc (sto Y4.1) := by rw [ty_52st]; rfl
          have ty_52pl : PL S_46 Y4.1 n9 := by rw [ty_52Y, ty_52s]; exact pl_stops ty_38z0 ty_3813
          have ty_52tx : TX S_46 T V Y q (6 * (fu + 1) + 372) (-6) := by rw [ty_52s]; exact US.txb ty_38us (by omega) (by omega) (by decide)
          refine lv_istore (lv' := [(7, .int ((-6))), (6, .int (nI Y3.2)), (5, .int (nI Y2.2)), (4, .int (nI Y1.2)), (0, .ref (ga G 4)), (1, .int (nI n9)), (2, .int (nI lv)), (3, .int (nI dp))]) hx hb dX5_typedApply_83 hl (by decide) rfl (fun ls hl => ?_)
          refine lv_iload hx hb dX5_typedApply_85 (lv_at hl 0 rfl) ?_
          refine lv_if_ge (tgt := 95) hx hb dX5_typedApply_87 (by decide) (fun c_53 => absurd c_53 (by decide)) (fun c_53 => ?_)
          refine lv_iload hx hb dX5_typedApply_90 (lv_at hl 0 rfl) ?_
          refine lv_goto (tgt := 104) hx hb dX5_typedApply_92 (by decide) ?_
          refine lv_istore (lv' := [(8, .int ((-6))), (7, .int ((-6))), (6, .int (nI Y3.2)), (5, .int (nI Y2.2)), (4, .int (nI Y1.2)), (0, .ref (ga G 4)), (1, .int (nI n9)), (2, .int (nI lv)), (3, .int (nI dp))]) hx hb dX5_typedApply_104 hl (by decide) rfl (fun ls hl => ?_)
          refine lv_iload hx hb dX5_typedApply_106 (lv_at hl 0 rfl) ?_
          refine lv_if_ge (tgt := 116) hx hb dX5_typedApply_108 (by decide) (fun c_54 => absurd c_54 (by decide)) (fun c_54 => ?_)
          refine lv_iload hx hb dX5_typedApply_111 (lv_at hl 0 rfl) ?_
          refine lv_goto (tgt := 118) hx hb dX5_typedApply_113 (by decide) ?_
          have sm_55_4 : SM Y4.1 Y5 := by rw [e5]; exact (sm_puts _ _ _ ty_52zz)
          have sm_55_4h : sto Y5 ≠ 0 := sm_55_4.ne ty_52zz
          exact c_iret (v := (-6)) hx hb hr hK hP hD hS hC hh hpp ⟨aw_49t, ⟨ty_52tx, yf_bad (YC.cm ty_52yc (by omega)) ty_52zz sm_55_4 ty_52hv ty_52pl er⟩⟩ dX5_typedApply_118 hlocks
        · skip
          have ty_52us := US.ty ty_38us ty_52 aw_49 (by decide) (by decide)
          obtain ⟨ty_52ut, ty_52uv, ty_52ub, ty_52ux⟩ := id ty_52us.1.2.1
          have ty_52nt : nT (mkA Y3.1 Y2.2 Y3.2).1 = nT Y3.1 + 1 := by rw [mkA_e ty_38z0 (by rw [ya_44T]; exact Nat.ne_of_lt ty_52t)]; rfl
          have ty_52kq := kq_fun (a := Y2.2) (b := Y3.2) ty_38yc.2.1 aw_49 (by rw [ya_44T]; exact ty_52l) (ty_52.1.2.2.2.2.1.trans (by rw [ya_44T])) ty_38z0 (by rw [ya_44T]; exact Nat.ne_of_lt ty_52t)
          have ty_52yc : YC S S_46 Y tm (0 + cntT tr fu (tr 10 n9) + cntT tr fu (tr 11 n9)) gs z Y4.1 tx_26t tx_26gs := by rw [e4]; exact YC.leaf ty_38yc aw_49 ty_52kt ty_52kq (by decide) (by decide) (k_mkA _ _ _) (Nat.le_of_lt (by rw [ty_52nt]; exact Nat.lt_succ_self _)) ((wc_mkA _ _ _).2) ty_38z0
          have ty_52z0 : sto Y4.1 = 0 := by rw [e4]; exact ty_52k0
          have ty_52sq : stp Y4.1 = tx_26q := by rw [e4]; exact ((wc_mkA _ _ _).2).trans ty_38sq
          have ty_522 : Y4.2 = (tx_26T + 1) := by rw [e4]; exact ty_52k2
          have ty_52nm : nT Y3.1 ≤ nT Y4.1 := by rw [e4, ty_52nt]; exact Nat.le_succ _
          have ty_52lt : Y4.2 < nT Y4.1 := by rw [ty_522, e4, ty_52nt, ya_44T]; exact Nat.lt_succ_self _
          have ty_5213 : S_46.1 13 = -9 := (aw_49.1 13 (by decide)).trans ty_3813
          obtain rfl : r_45 = nI Y4.2 := ty_52v.trans (by rw [ty_522])
          have vl_56 : Y1.2 < nT Y4.1 := Nat.lt_of_lt_of_le vl_41 ty_52nm
          have vl_57 : Y2.2 < nT Y4.1 := Nat.lt_of_lt_of_le vl_42 ty_52nm
          have vl_58 : Y3.2 < nT Y4.1 := Nat.lt_of_lt_of_le ty_38lt ty_52nm
          refine lv_istore (lv' := [(7, .int (nI Y4.2)), (6, .int (nI Y3.2)), (5, .int (nI Y2.2)), (4, .int (nI Y1.2)), (0, .ref (ga G 4)), (1, .int (nI n9)), (2, .int (nI lv)), (3, .int (nI dp))]) hx hb dX5_typedApply_83 hl (by decide) rfl (fun ls hl => ?_)
          refine lv_iload hx hb dX5_typedApply_85 (lv_at hl 0 rfl) ?_
          refine lv_if_ge (tgt := 95) hx hb dX5_typedApply_87 (by decide) (fun c_59 => ?_) (fun c_59 => absurd (Int32.not_lt.mp (nI_n0 (by omega))) c_59)
          refine lv_aload_n hx hb dX5_typedApply_95 rfl (lv_at hl 4 rfl) ?_
          refine lv_iload hx hb dX5_typedApply_96 (lv_at hl 3 rfl) ?_
          refine lv_iload hx hb dX5_typedApply_98 (lv_at hl 0 rfl) ?_
          refine lv_iconst (v := 1) hx hb dX5_typedApply_100 (by decide) ?_
          have ya_60 := yc_askn ty_52yc n9
          have hC0 := hC
          refine c_ci (c_runV (As := [.int (nI Y1.2), .int (nI Y4.2), .int 1]) (rest := []) (q0 := 4) (ci := 5) ⟨hx, hb, hml, hown, htu⟩ ((x_under_all 60) l G S_46 (((tx_26T + 1) + 1)) ((tx_26V + 1)) tx_26X Y tx_26Z tx_26q 1 ((w1 Y4.1 0 5 n9)) Y1.2 Y4.2 tx_26t hC ty_52us ((by omega)) kk_50 ((show 1 + 60 = 61 by decide)) ((by omega)) ya_60.1 ya_60.2.1 ya_60.2.2.1 ya_60.2.2.2.1 ((by have := ya_60.2.2.2.2.1; omega)) ty_52z0 ty_52sq vl_56 ty_52lt H) (cwV 3 htu hU_X5_150 rfl rfl rfl (by decide +kernel) ⟨show (60 + 70) + 1 ≤ 2 * fu + 141 by omega, show 8 + (8 + 11) + (40 * 60 + 3000) ≤ 60 * fu + 6530 by omega⟩) hP hK hD hC hpp cw_4 rfl rfl hl.1 rfl (lv_room (Nat.le_of_ble_eq_true rfl)) dX5_typedApply_101) hS hD hh hpp (fun r_61 S_62 H locs hw_63 hP hD hS hC hh hs_64 hpq => ?_)
          clear hpp
          have hpp := hpq
          clear hpq
          try dsimp only at hw_63
          have aw_65 : AW [6, 7, 8, 9, 16, 14, 10, 11, 12, 13, 17, 18, 25, 26, 35] [8, 9, 10, 12] S_46 S_62 := hw_63.1
          have aw_65t : AW [6, 7, 8, 9, 16, 14, 10, 11, 12, 13, 17, 18, 23, 24, 25, 26, 35] [8, 9, 10, 12, 13] S S_62 := aw_49t.tr (aw_65.mono (by decide) (by decide))
          have kk_66 : kK S_62 15 = 0 := (aw_65.2.1 15 (lt35 (by decide)) (by decide)).2.trans kk_50
          have tj_67 : TJ S_62 N := TJ.aw tj_51 aw_65 (by decide)
          have tx_68e : Y5 = un 60 (w1 Y4.1 0 5 n9) Y1.2 Y4.2 := e5.trans (puts_e ty_52z0)
          obtain ⟨tx_68A0, tx_68E⟩ := hw_63.2
          clear hw_63
          have tx_68A := UX.tx tx_68A0
          clear tx_68A0
          rw [← tx_68e] at tx_68E
          obtain ⟨⟨tx_68t, tx_68uc⟩, tx_68M⟩ := tx_68E
          have tx_68yc := yc_under ya_60 tx_68uc aw_65 (by decide) (by rw [tx_68e]; exact k_un _ _ _ _) (by rw [tx_68e]; exact (x_un _ _ _ _).1) (fun _ => ty_52z0)
          have nm_69 : nT Y4.1 ≤ nT Y5 := by rw [tx_68e]; exact (x_un 60 (w1 Y4.1 0 5 n9) _ _).1
          have vl_70 : Y1.2 < nT Y5 := Nat.lt_of_lt_of_le vl_56 nm_69
          have vl_71 : Y2.2 < nT Y5 := Nat.lt_of_lt_of_le vl_57 nm_69
          have vl_72 : Y3.2 < nT Y5 := Nat.lt_of_lt_of_le vl_58 nm_69
          have vl_73 : Y4.2 < nT Y5 := Nat.lt_of_lt_of_le ty_52lt nm_69
          have tx_6813 : S_62.1 13 = -9 := (aw_65.1 13 (by decide)).trans ty_5213
          rcases Nat.eq_zero_or_pos (sto Y5) with tx_68z | tx_68z
          · skip
            obtain ⟨tx_68v, tx_6812⟩ := tx_68M.1 tx_68z
            subst tx_68v
            obtain ⟨tx_68T, tx_68V, tx_68X, tx_68Z, tx_68q, tx_68u, tx_681, tx_682, tx_683, tx_684⟩ := tx_68A.ok (by decide)
            obtain ⟨tx_68tT, tx_68tV, tx_68tB, tx_68tX⟩ := id tx_68u.1.2.1
            have tx_68sq : stp Y5 = tx_68q := (nI_eq (by have := tx_68yc.2.2.2.2.1; omega) (by omega)).mp (tx_6812.symm.trans tx_68u.2.1)
            clear tx_68A tx_68M
            refine lv_istore (lv' := [(8, .int 0), (7, .int (nI Y4.2)), (6, .int (nI Y3.2)), (5, .int (nI Y2.2)), (4, .int (nI Y1.2)), (0, .ref (ga G 4)), (1, .int (nI n9)), (2, .int (nI lv)), (3, .int (nI dp))]) hx hb dX5_typedApply_104 hl (by decide) rfl (fun ls hl => ?_)
            refine lv_iload hx hb dX5_typedApply_106 (lv_at hl 0 rfl) ?_
            refine lv_if_ge (tgt := 116) hx hb dX5_typedApply_108 (by decide) (fun c_74 => ?_) (fun c_74 => absurd (by decide) c_74)
            refine lv_iload hx hb dX5_typedApply_116 (lv_at hl 2 rfl) ?_
            exact c_iret (v := nI Y3.2) hx hb hr hK hP hD hS hC hh hpp ⟨aw_65t, ⟨US.tx tx_68u (by omega) _, yf_good (YC.cm tx_68yc (by omega)) tx_68z rfl vl_72 (tx_68u.2.1.trans (by rw [tx_68sq])) tx_6813 er⟩⟩ dX5_typedApply_118 hlocks
          · skip
            have tx_68zz : sto Y5 ≠ 0 := Nat.ne_of_gt tx_68z
            have tx_68v := tx_68M.2 tx_68zz
            have tx_68nn : ¬ 0 ≤ r_61 := Int32.not_le.mpr (by rw [tx_68v]; exact sc_neg tx_68zz)
            clear tx_68M
            refine lv_istore (lv' := [(8, .int r_61), (7, .int (nI Y4.2)), (6, .int (nI Y3.2)), (5, .int (nI Y2.2)), (4, .int (nI Y1.2)), (0, .ref (ga G 4)), (1, .int (nI n9)), (2, .int (nI lv)), (3, .int (nI dp))]) hx hb dX5_typedApply_104 hl (by decide) rfl (fun ls hl => ?_)
            refine lv_iload hx hb dX5_typedApply_106 (lv_at hl 0 rfl) ?_
            refine lv_if_ge (tgt := 116) hx hb dX5_typedApply_108 (by decide) (fun c_75 => absurd c_75 tx_68nn) (fun c_75 => ?_)
            refine lv_iload hx hb dX5_typedApply_111 (lv_at hl 0 rfl) ?_
            refine lv_goto (tgt := 118) hx hb dX5_typedApply_113 (by decide) ?_
            exact c_iret (v := r_61) hx hb hr hK hP hD hS hC hh hpp ⟨aw_65t, ⟨(TX.bad tx_68A (by omega) (Int32.not_le.mp tx_68nn)), yf_bad (YC.cm tx_68yc (by omega)) tx_68zz SM.rf tx_68v (pl_wh (by rw [tx_68e]; exact wh_un 60 _ _ _) ty_52z0 tx_68zz tx_6813) er⟩⟩ dX5_typedApply_118 hlocks
    · skip
      have tx_26zz : sto Y2.1 ≠ 0 := Nat.ne_of_gt tx_26z
      obtain ⟨tx_26v, tx_26p⟩ := tx_26b tx_26zz
      have tx_26nn : ¬ 0 ≤ r_19 := Int32.not_le.mpr (by rw [tx_26v]; exact sc_neg tx_26zz)
      clear tx_26g tx_26b
      refine lv_istore (lv' := [(5, .int r_19), (4, .int (nI Y1.2)), (0, .ref (ga G 4)), (1, .int (nI n9)), (2, .int (nI lv)), (3, .int (nI dp))]) hx hb dX5_typedApply_44 hl (by decide) rfl (fun ls hl => ?_)
      refine lv_iload hx hb dX5_typedApply_46 (lv_at hl 0 rfl) ?_
      refine lv_if_ge (tgt := 54) hx hb dX5_typedApply_48 (by decide) (fun c_77 => absurd c_77 tx_26nn) (fun c_77 => ?_)
      refine lv_iload hx hb dX5_typedApply_51 (lv_at hl 0 rfl) ?_
      have sm_78_2 : SM Y2.1 Y3.1 := by rw [e3]; exact (sm_fresh _ _ tx_26zz)
      have sm_78_2h : sto Y3.1 ≠ 0 := sm_78_2.ne tx_26zz
      have sm_78_3 : SM Y3.1 Y4.1 := by rw [e4]; exact (sm_mkA _ _ sm_78_2h)
      have sm_78_3h : sto Y4.1 ≠ 0 := sm_78_3.ne sm_78_2h
      have sm_78_4 : SM Y4.1 Y5 := by rw [e5]; exact (sm_puts _ _ _ sm_78_3h)
      have sm_78_4h : sto Y5 ≠ 0 := sm_78_4.ne sm_78_3h
      exact c_iret (v := r_19) hx hb hr hK hP hD hS hC hh hpp ⟨aw_23t, ⟨(TX.bad tx_26A (by omega) (Int32.not_le.mp tx_26nn)), yf_bad (YC.cm tx_26yc (by omega)) tx_26zz ((sm_78_2.tr sm_78_3).tr sm_78_4) tx_26v (Or.inl tx_26p) er⟩⟩ dX5_typedApply_53 hlocks
  · skip
    have tx_12zz : sto Y1.1 ≠ 0 := Nat.ne_of_gt tx_12z
    obtain ⟨tx_12v, tx_12p⟩ := tx_12b tx_12zz
    have tx_12nn : ¬ 0 ≤ r_5 := Int32.not_le.mpr (by rw [tx_12v]; exact sc_neg tx_12zz)
    clear tx_12g tx_12b
    refine lv_istore (lv' := [(4, .int r_5), (0, .ref (ga G 4)), (1, .int (nI n9)), (2, .int (nI lv)), (3, .int (nI dp))]) hx hb dX5_typedApply_17 hl (by decide) rfl (fun ls hl => ?_)
    refine lv_iload hx hb dX5_typedApply_19 (lv_at hl 0 rfl) ?_
    refine lv_if_ge (tgt := 27) hx hb dX5_typedApply_21 (by decide) (fun c_79 => absurd c_79 tx_12nn) (fun c_79 => ?_)
    refine lv_iload hx hb dX5_typedApply_24 (lv_at hl 0 rfl) ?_
    have sm_80_1 : SM Y1.1 Y2.1 := by rw [e2]; exact (sm_ty tx_12zz)
    have sm_80_1h : sto Y2.1 ≠ 0 := sm_80_1.ne tx_12zz
    have sm_80_2 : SM Y2.1 Y3.1 := by rw [e3]; exact (sm_fresh _ _ sm_80_1h)
    have sm_80_2h : sto Y3.1 ≠ 0 := sm_80_2.ne sm_80_1h
    have sm_80_3 : SM Y3.1 Y4.1 := by rw [e4]; exact (sm_mkA _ _ sm_80_2h)
    have sm_80_3h : sto Y4.1 ≠ 0 := sm_80_3.ne sm_80_2h
    have sm_80_4 : SM Y4.1 Y5 := by rw [e5]; exact (sm_puts _ _ _ sm_80_3h)
    have sm_80_4h : sto Y5 ≠ 0 := sm_80_4.ne sm_80_3h
    exact c_iret (v := r_5) hx hb hr hK hP hD hS hC hh hpp ⟨aw_9t, ⟨(TX.bad tx_12A (by omega) (Int32.not_le.mp tx_12nn)), yf_bad (YC.cm tx_12yc (by omega)) tx_12zz (((sm_80_1.tr sm_80_2).tr sm_80_3).tr sm_80_4) tx_12v (Or.inl tx_12p) er⟩⟩ dX5_typedApply_26 hlocks

set_option maxHeartbeats 4000000 in
set_option maxRecDepth 100000 in
/-- typedField -/
theorem x_typedField (l : Launch) (G : cG) (S : cS) (fu : Nat) (T : Nat) (V : Nat) (X : Nat) (Y : Nat) (Z : Nat) (q : Nat) (N : Nat) (dp : Nat) (lv : Nat) (tr : aM) (mk : Nat → Int32) (rk : Nat → Nat) (top : Nat) (gs : Nat → Prop) (z : aS) (n9 : Nat) (tm : Nat) (hC : CL S) (ih : xTypedAt fu) (hU : US S T V X Y Z q) (hq : q ≤ 1500) (h15 : kK S 15 = 0) (hT : TJ S N) (hdp : dp + (fu + 1) = 61) (hlv : lv ≤ dp) (hY2 : Y + (6 * (fu + 1) + 372) ≤ 900) (hE : TC S tr mk N) (hO : TO S tr N) (hrk : RKs tr rk N) (hn : n9 < N) (htp : top < N) (h11 : S.1 11 = nI top) (hcv : ∀ j, Cv gs tr top j n9) (hz : KT S z) (hkq : KQ S z) (hm0 : KM0 S tm) (h8 : S.1 8 = nI tm) (htm : tm + 1501 + cntT tr ((fu + 1)) n9 ≤ 2 ^ 29 + stp z) (h0 : sto z = 0) (hzq : stp z = q) (h13 : S.1 13 = -9) (hk2 : kK S 23 = 120 ∧ kK S 24 = 120) (hgc : GC gs z S) (hkd : tr 0 n9 = 6) (Hs : Heap) : Met l yX5_typedField (wC yX5_typedField cX5_typedField 9 (some .int)) (cRm S (2 * fu + 141) (60 * fu + 6530)) (cPc G S Hs [.ref (ga G 4), .int (nI n9), .int (nI lv), .int (nI dp)]) (cQi G S Hs (fun v u => AW [6, 7, 8, 9, 16, 14, 10, 11, 12, 13, 17, 18, 23, 24, 25, 26, 35] [8, 9, 10, 12, 13] S u ∧ (TX u T V Y q (6 * (fu + 1) + 372) v ∧ YF S u Y tm (cntT tr (fu + 1) n9) gs n9 z (ty tr top (fu + 1) z n9 lv) v))) (CC - PT S) (12 * (CC - PT S)) (cA G S Hs.size) := by
  refine Met.ofW (cc := cX5_typedField) (maxL := 9) (ret := (some .int)) (by decide) rfl ?_
  intro p e s m args below meth c s₁ B hml hv
  obtain ⟨rfl, hsz, hP, hK, hD0, -⟩ := hv
  have hx := B.exec
  have hb := B.bytes
  have hr := B.returns
  have htu : ∀ w ∈ CU, w.before _ s = true := fun w h => atoms_spec (ws := (wC yX5_typedField cX5_typedField 9 (some .int))) B.pre w (List.mem_cons_of_mem _ h)
  have hown : s.vm.findClass RX5 = some m.cls := findClass_of_methodNamed B.named
  have hlocks := B.notSynchronized
  subst hsz
  have hD : cD (cA G S s.heap.size) G S := cD_self hD0
  have hl := lv_entry ([.ref (ga G 4), .int (nI n9), .int (nI lv), .int (nI dp)]) (n := 9) (Nat.le_of_ble_eq_true rfl)
  rw [lg_entry_eq]
  generalize (lg_sl ([.ref (ga G 4), .int (nI n9), .int (nI lv), .int (nI dp)]) ++ List.replicate (9 - (lg_sl ([.ref (ga G 4), .int (nI n9), .int (nI lv), .int (nI dp)])).length) Slot.unset).toArray = ls at hl ⊢
  have hl : lv_has ls 9 [(0, .ref (ga G 4)), (1, .int (nI n9)), (2, .int (nI lv)), (3, .int (nI dp))] := hl
  obtain ⟨H, hHe⟩ : ∃ H : Heap, H = s.heap := ⟨_, rfl⟩
  rw [← hHe] at hP
  have hS : va_S (cA G S s.heap.size) s.heap H [] := by rw [hHe]; exact va_S.rf
  have hh : HS S S := HS.rf
  have hpp : PT S ≤ PT S := Nat.le_refl _
  have hB9 := hC.1
  refine W.heq hHe ?_
  refine c_ent (S := S) ?_
  obtain ⟨tT, tV, tB, tX⟩ := id hU.1.2.1
  have yc0 : YC S S Y tm 0 gs z z tm gs := ⟨hz, hkq, hm0, h8, ⟨Nat.le_refl _, Nat.le_refl _, by omega⟩, fun _ _ => ⟨rfl, rfl⟩, hk2, fun _ => ⟨fun _ h => h, hgc⟩⟩
  have hp9 : prts (tr 0 n9) (tr 2 n9) = 1 := by rw [hkd]; rfl
  obtain ⟨Y1, Y2, Y3, Y4, e1, e2, e3, e4, er⟩ := ty_6 (top := top) (k := fu) (l := lv) h0 hkd
  have hct := cnt_1 (tr := tr) (k := fu) (n := n9) (m := 0) hp9
  have hla26 : tr 1 n9 < 26 := ((hE.2 n9 hn).2.2.1 (by omega)).2
  refine lv_aload_n hx hb dX5_typedField_0 rfl (lv_at hl 0 rfl) ?_
  refine lv_aload_n hx hb dX5_typedField_1 rfl (lv_at hl 0 rfl) ?_
  refine va_get (D := gD G) (ci := 5) (v := .ref (ga G 1)) (C := RX5) (T := TX5) (N := 15) hx hb htu cu_in5 hown hK hP 4 cw_4 rfl 0 (by decide) (htu _ C_60) (fun _ h9 => h9) rfl dX5_typedField_2 ?_
  refine lv_iload_n hx hb dX5_typedField_5 rfl (lv_at hl 1 rfl) ?_
  refine lv_iconst (v := 0) hx hb dX5_typedField_6 (by decide) ?_
  have hC0 := hC
  refine c_ci (c_runV (As := [.int (nI n9), .int 0]) (rest := [.ref (ga G 4)]) (q0 := 1) (ci := 3) ⟨hx, hb, hml, hown, htu⟩ (tt_partOf l G S N (nI n9) 0 hC hT.1 H) (cwV 2 htu hU_X5_144 rfl rfl rfl (by decide +kernel) ⟨show 1 + 1 ≤ 2 * fu + 141 by omega, show 8 + (3 + 11) + 21 ≤ 60 * fu + 6530 by omega⟩) hP hK hD hC hpp cw_1 rfl rfl hl.1 rfl (lv_room (Nat.le_of_ble_eq_true rfl)) dX5_typedField_7) hS hD hh hpp (fun r_1 S_2 H locs hw_3 hP hD hS hC hh hs_4 hpq => ?_)
  clear hpp
  have hpp := hpq
  clear hpq
  obtain ⟨-, hu9, hw_3⟩ := hw_3
  have hu9 := hu9.symm
  subst hu9
  obtain rfl : r_1 = nI (tr 10 n9) := hw_3.trans ((hE.aw (AW.rf (rs := []) (is := [])) (by decide)).part hn (i := 0) (by rw [hp9]; decide))
  refine lv_iload_n hx hb dX5_typedField_10 rfl (lv_at hl 2 rfl) ?_
  refine lv_iload_n hx hb dX5_typedField_11 rfl (lv_at hl 3 rfl) ?_
  refine lv_iconst (v := 1) hx hb dX5_typedField_12 (by decide) ?_
  refine lv_iadd hx hb dX5_typedField_13 ?_
  refine m_top (y := nI (dp + 1)) (nI_add dp 1) ?_
  have hC0 := hC
  refine c_ci (c_runV (As := [.int (nI (tr 10 n9)), .int (nI lv), .int (nI (dp + 1))]) (rest := []) (q0 := 4) (ci := 5) ⟨hx, hb, hml, hown, htu⟩ (ih l G S T V X Y Z q N ((dp + 1)) lv tr mk rk top gs z ((tr 10 n9)) tm hC hU ((by omega)) h15 hT ((by omega)) ((by omega)) ((by omega)) ((hE.aw (AW.rf (rs := []) (is := [])) (by decide))) ((hO.aw (AW.rf (rs := []) (is := [])) (by decide))) hrk ((hE.plt hn (i := 0) (by rw [hp9]; decide))) htp ((((AW.rf (rs := []) (is := [])).1 11 (by decide)).trans h11)) ((Cv.part hcv ((hO n9 hn).2.2.1 0 (by rw [hp9]; decide)) (yc0.2.2.2.2.2.2.2 h0).1 (fun h => by unfold covers at h; omega))) yc0.1 yc0.2.1 yc0.2.2.1 yc0.2.2.2.1 ((by have := yc0.2.2.2.2.1; omega)) h0 hzq h13 yc0.2.2.2.2.2.2.1 ((yc0.2.2.2.2.2.2.2 h0).2) H) (cwV 3 htu hU_X5_77 rfl rfl rfl (by decide +kernel) ⟨show (2 * fu + 140) + 1 ≤ 2 * fu + 141 by omega, show 8 + (5 + 11) + (60 * fu + 6500) ≤ 60 * fu + 6530 by omega⟩) hP hK hD hC hpp cw_4 rfl rfl hl.1 rfl (lv_room (Nat.le_of_ble_eq_true rfl)) dX5_typedField_14) hS hD hh hpp (fun r_5 S_6 H locs hw_7 hP hD hS hC hh hs_8 hpq => ?_)
  clear hpp
  have hpp := hpq
  clear hpq
  try dsimp only at hw_7
  have aw_9 : AW [6, 7, 8, 9, 16, 14, 10, 11, 12, 13, 17, 18, 23, 24, 25, 26, 35] [8, 9, 10, 12, 13] S S_6 := hw_7.1
  have aw_9t : AW [6, 7, 8, 9, 16, 14, 10, 11, 12, 13, 17, 18, 23, 24, 25, 26, 35] [8, 9, 10, 12, 13] S S_6 := AW.rf.tr (aw_9.mono (by decide) (by decide))
  have kk_10 : kK S_6 15 = 0 := (aw_9.2.1 15 (lt35 (by decide)) (by decide)).2.trans h15
  have tj_11 : TJ S_6 N := TJ.aw hT aw_9 (by decide)
  obtain ⟨tx_12A, tx_12E⟩ := hw_7.2
  clear hw_7
  rw [← e1] at tx_12E
  obtain ⟨⟨tx_12t, tx_12gs, tx_12y0⟩, tx_12g, tx_12b⟩ := tx_12E
  have tx_12yc := YC.tr yc0 tx_12y0 (show Y ≤ Y by omega) h0
  have nm_13 : nT z ≤ nT Y1.1 := by rw [e1]; exact (x_ty _ _ _ _ _ _).1
  rcases Nat.eq_zero_or_pos (sto Y1.1) with tx_12z | tx_12z
  · skip
    obtain ⟨tx_12v, tx_12x, tx_1212, tx_1213⟩ := tx_12g tx_12z
    subst tx_12v
    have tx_126 := tx_12yc.1.1.2.2.2.2.2.2.2.1
    have tx_120 : 0 ≤ nI Y1.2 := Int32.not_lt.mp (nI_n0 (by omega))
    obtain ⟨tx_12T, tx_12V, tx_12X, tx_12Z, tx_12q, tx_12u, tx_121, tx_122, tx_123, tx_124⟩ := tx_12A.ok tx_120
    obtain ⟨tx_12tT, tx_12tV, tx_12tB, tx_12tX⟩ := id tx_12u.1.2.1
    have tx_12sq : stp Y1.1 = tx_12q := (nI_eq (by have := tx_12yc.2.2.2.2.1; omega) (by omega)).mp (tx_1212.symm.trans tx_12u.2.1)
    clear tx_12g tx_12b tx_12A
    refine lv_istore (lv' := [(4, .int (nI Y1.2)), (0, .ref (ga G 4)), (1, .int (nI n9)), (2, .int (nI lv)), (3, .int (nI dp))]) hx hb dX5_typedField_17 hl (by decide) rfl (fun ls hl => ?_)
    refine lv_iload hx hb dX5_typedField_19 (lv_at hl 0 rfl) ?_
    refine lv_if_ge (tgt := 27) hx hb dX5_typedField_21 (by decide) (fun c_14 => ?_) (fun c_14 => absurd (Int32.not_lt.mp (nI_n0 (by omega))) c_14)
    refine lv_aload_n hx hb dX5_typedField_27 rfl (lv_at hl 1 rfl) ?_
    refine va_get (D := gD G) (ci := 5) (v := .ref (ga G 2)) (C := RX5) (T := TX5) (N := 15) hx hb htu cu_in5 hown hK hP 4 cw_4 rfl 1 (by decide) (htu _ C_45) (fun _ h9 => h9) rfl dX5_typedField_28 ?_
    refine lv_iload_n hx hb dX5_typedField_31 rfl (lv_at hl 3 rfl) ?_
    have ya_15 := yc_askn tx_12yc n9
    have ya_15T : nT Y1.1 = tx_12T := tx_12yc.1.1.1.symm.trans tx_12u.1.1.1
    have hC0 := hC
    refine c_ci (c_runV (As := [.int (nI lv)]) (rest := []) (q0 := 2) (ci := 4) ⟨hx, hb, hml, hown, htu⟩ (x_addVariable l G S_6 tx_12T tx_12V tx_12V tx_12X Y tx_12Z ((w1 Y1.1 0 5 n9)) lv hC tx_12u.1 rfl ya_15.1 ((by omega)) H) (cwV 1 htu hU_X5_137 rfl rfl rfl (by decide +kernel) ⟨show 4 + 1 ≤ 2 * fu + 141 by omega, show 8 + (4 + 11) + 128 ≤ 60 * fu + 6530 by omega⟩) hP hK hD hC hpp cw_2 rfl rfl hl.1 rfl (lv_room (Nat.le_of_ble_eq_true rfl)) dX5_typedField_32) hS hD hh hpp (fun r_16 S_17 H locs hw_18 hP hD hS hC hh hs_19 hpq => ?_)
    clear hpp
    have hpp := hpq
    clear hpq
    try dsimp only at hw_18
    have aw_20 : AW [6, 7, 8, 9, 16, 14, 35] [] S_6 S_17 := hw_18.1
    have aw_20t : AW [6, 7, 8, 9, 16, 14, 10, 11, 12, 13, 17, 18, 23, 24, 25, 26, 35] [8, 9, 10, 12, 13] S S_17 := aw_9t.tr (aw_20.mono (by decide) (by decide))
    have kk_21 : kK S_17 15 = 0 := (aw_20.2.1 15 (lt35 (by decide)) (by decide)).2.trans kk_10
    have tj_22 : TJ S_17 N := TJ.aw tj_11 aw_20 (by decide)
    have hw_189 := hw_18.2
    clear hw_18
    rcases hw_189 with ⟨ty_23v, ty_23s, ty_23f⟩ | ⟨ty_23v, ty_23t, ty_23, ty_23o, ty_234, ty_238, ⟨ty_23q, ty_23w, ty_23x, ty_23y⟩, ⟨ty_23150, ty_23kt⟩, ty_23l⟩
    · skip
      subst ty_23v
      have ty_23Y : Y2 = (stops (w1 Y1.1 0 5 n9) 1 n9, 0) := e2.trans (fresh_f tx_12z ty_23f)
      have ty_23yc : YC S S_17 Y tm (0 + cntT tr fu (tr 10 n9)) gs z Y2.1 tx_12t tx_12gs := by rw [ty_23Y, ty_23s]; exact yc_stops ya_15 1 n9 (by decide) tx_12z
      have ty_23st : sto Y2.1 = 1 := by rw [ty_23Y]; exact sto_sp9 (s := w1 Y1.1 0 5 n9) tx_12z
      have ty_23zz : sto Y2.1 ≠ 0 := by rw [ty_23st]; decide
      have ty_23hv : (-6 : Int32) = sc (sto Y2.1) := by rw [ty_23st]; rfl
      have ty_23pl : PL S_17 Y2.1 n9 := by rw [ty_23Y, ty_23s]; exact pl_stops (w := w1 Y1.1 0 5 n9) tx_12z tx_1213
      have ty_23tx : TX S_17 T V Y q (6 * (fu + 1) + 372) (-6) := by rw [ty_23s]; exact US.txb tx_12u (by omega) (by omega) (by decide)
      refine lv_istore (lv' := [(5, .int ((-6))), (4, .int (nI Y1.2)), (0, .ref (ga G 4)), (1, .int (nI n9)), (2, .int (nI lv)), (3, .int (nI dp))]) hx hb dX5_typedField_35 hl (by decide) rfl (fun ls hl => ?_)
      refine lv_iload hx hb dX5_typedField_37 (lv_at hl 0 rfl) ?_
      refine lv_if_ge (tgt := 45) hx hb dX5_typedField_39 (by decide) (fun c_24 => absurd c_24 (by decide)) (fun c_24 => ?_)
      refine lv_iload hx hb dX5_typedField_42 (lv_at hl 0 rfl) ?_
      have sm_25_2 : SM Y2.1 Y3.1 := by rw [e3]; exact (sm_mkR _ _ ty_23zz)
      have sm_25_2h : sto Y3.1 ≠ 0 := sm_25_2.ne ty_23zz
      have sm_25_3 : SM Y3.1 Y4 := by rw [e4]; exact (sm_puts _ _ _ sm_25_2h)
      have sm_25_3h : sto Y4 ≠ 0 := sm_25_3.ne sm_25_2h
      exact c_iret (v := (-6)) hx hb hr hK hP hD hS hC hh hpp ⟨aw_20t, ⟨ty_23tx, yf_bad (YC.cm ty_23yc (by omega)) ty_23zz (sm_25_2.tr sm_25_3) ty_23hv ty_23pl er⟩⟩ dX5_typedField_44 hlocks
    · skip
      have ty_23us := US.var tx_12u ty_23 aw_20 (by decide) ty_23w ty_23x ty_23y
      obtain ⟨ty_23ut, ty_23uv, ty_23ub, ty_23ux⟩ := id ty_23us.1.2.1
      have ty_23Y : Y2 = (newV (w1 Y1.1 0 5 n9) lv, nT Y1.1) := e2.trans (fresh_e tx_12z ty_23150 (by rw [ya_15T]; exact Nat.ne_of_lt ty_23t))
      have ty_23kq := kq_var (l := lv) ya_15.2.1 aw_20 (by rw [show nT (w1 Y1.1 0 5 n9) = tx_12T from ya_15T]; exact ty_23l) (ty_23.1.2.2.2.2.1.trans (by rw [show nT (w1 Y1.1 0 5 n9) = tx_12T from ya_15T]))
      have ty_23yc : YC S S_17 Y tm (0 + cntT tr fu (tr 10 n9)) gs z Y2.1 tx_12t tx_12gs := by rw [ty_23Y]; exact YC.leaf ya_15 aw_20 ty_23kt ty_23kq (by decide) (by decide) (fun _ => ⟨rfl, rfl⟩) (Nat.le_succ _) rfl tx_12z
      have ty_23z0 : sto Y2.1 = 0 := by rw [ty_23Y]; exact tx_12z
      have ty_23sq : stp Y2.1 = tx_12q := by rw [ty_23Y]; exact tx_12sq
      have ty_232 : Y2.2 = tx_12T := by rw [ty_23Y]; exact ya_15T
      have ty_23lt : Y2.2 < nT Y2.1 := by rw [ty_23Y]; exact Nat.lt_succ_self _
      have ty_23nm : nT Y1.1 ≤ nT Y2.1 := by rw [ty_23Y]; exact Nat.le_succ _
      have ty_2313 : S_17.1 13 = -9 := (aw_20.1 13 (by decide)).trans tx_1213
      obtain rfl : r_16 = nI Y2.2 := ty_23v.trans (by rw [ty_232])
      have vl_26 : Y1.2 < nT Y2.1 := Nat.lt_of_lt_of_le tx_12x ty_23nm
      refine lv_istore (lv' := [(5, .int (nI Y2.2)), (4, .int (nI Y1.2)), (0, .ref (ga G 4)), (1, .int (nI n9)), (2, .int (nI lv)), (3, .int (nI dp))]) hx hb dX5_typedField_35 hl (by decide) rfl (fun ls hl => ?_)
      refine lv_iload hx hb dX5_typedField_37 (lv_at hl 0 rfl) ?_
      refine lv_if_ge (tgt := 45) hx hb dX5_typedField_39 (by decide) (fun c_27 => ?_) (fun c_27 => absurd (Int32.not_lt.mp (nI_n0 (by omega))) c_27)
      refine lv_aload_n hx hb dX5_typedField_45 rfl (lv_at hl 2 rfl) ?_
      refine va_get (D := gD G) (ci := 5) (v := .ref (ga G 2)) (C := RX5) (T := TX5) (N := 15) hx hb htu cu_in5 hown hK hP 4 cw_4 rfl 1 (by decide) (htu _ C_45) (fun _ h9 => h9) rfl dX5_typedField_46 ?_
      have hC0 := hC
      refine c_ci (c_runV (As := []) (rest := []) (q0 := 2) (ci := 4) ⟨hx, hb, hml, hown, htu⟩ (y_stagedCount l G S_17  hC  H) (cwV 0 htu hU_X5_153 rfl rfl rfl (by decide +kernel) ⟨show 0 + 1 ≤ 2 * fu + 141 by omega, show 8 + (1 + 11) + 0 ≤ 60 * fu + 6530 by omega⟩) hP hK hD hC hpp cw_2 rfl rfl hl.1 rfl (lv_room (Nat.le_of_ble_eq_true rfl)) dX5_typedField_49) hS hD hh hpp (fun r_28 S_29 H locs hw_30 hP hD hS hC hh hs_31 hpq => ?_)
      clear hpp
      have hpp := hpq
      clear hpq
      obtain ⟨-, hu9, hw_30⟩ := hw_30
      have hu9 := hu9.symm
      subst hu9
      obtain rfl : r_28 = nI Y := hw_30.trans (congrArg nI ty_23us.1.1.2.2.2.2.2.2.2.2.2.1)
      refine lv_istore (lv' := [(6, .int (nI Y)), (5, .int (nI Y2.2)), (4, .int (nI Y1.2)), (0, .ref (ga G 4)), (1, .int (nI n9)), (2, .int (nI lv)), (3, .int (nI dp))]) hx hb dX5_typedField_52 hl (by decide) rfl (fun ls hl => ?_)
      refine lv_aload_n hx hb dX5_typedField_54 rfl (lv_at hl 3 rfl) ?_
      refine va_get (D := gD G) (ci := 5) (v := .ref (ga G 2)) (C := RX5) (T := TX5) (N := 15) hx hb htu cu_in5 hown hK hP 4 cw_4 rfl 1 (by decide) (htu _ C_45) (fun _ h9 => h9) rfl dX5_typedField_55 ?_
      refine lv_aload_n hx hb dX5_typedField_58 rfl (lv_at hl 3 rfl) ?_
      refine va_get (D := gD G) (ci := 5) (v := .ref (ga G 1)) (C := RX5) (T := TX5) (N := 15) hx hb htu cu_in5 hown hK hP 4 cw_4 rfl 0 (by decide) (htu _ C_60) (fun _ h9 => h9) rfl dX5_typedField_59 ?_
      refine lv_iload_n hx hb dX5_typedField_62 rfl (lv_at hl 4 rfl) ?_
      have hC0 := hC
      refine c_ci (c_runV (As := [.int (nI n9)]) (rest := [.ref (ga G 2)]) (q0 := 1) (ci := 3) ⟨hx, hb, hml, hown, htu⟩ (tt_markOf l G S_17 N (nI n9) hC tj_22.1 H) (cwV 1 htu hU_X5_168 rfl rfl rfl (by decide +kernel) ⟨show 1 + 1 ≤ 2 * fu + 141 by omega, show 8 + (2 + 11) + 21 ≤ 60 * fu + 6530 by omega⟩) hP hK hD hC hpp cw_1 rfl rfl hl.1 rfl (lv_room (Nat.le_of_ble_eq_true rfl)) dX5_typedField_63) hS hD hh hpp (fun r_32 S_33 H locs hw_34 hP hD hS hC hh hs_35 hpq => ?_)
      clear hpp
      have hpp := hpq
      clear hpq
      obtain ⟨-, hu9, hw_34⟩ := hw_34
      have hu9 := hu9.symm
      subst hu9
      obtain rfl : r_32 = nI (tr 1 n9) := hw_34.trans ((hE.aw aw_20t (by decide)).let hn (by omega))
      refine lv_iload hx hb dX5_typedField_66 (lv_at hl 1 rfl) ?_
      have hC0 := hC
      refine c_cv (c_runV (As := [.int (nI (tr 1 n9)), .int (nI Y2.2)]) (rest := []) (q0 := 2) (ci := 4) ⟨hx, hb, hml, hown, htu⟩ (x_stage l G S_17 ((tx_12T + 1)) ((tx_12V + 1)) ((tx_12V + 1)) tx_12X Y tx_12Z (nI (tr 1 n9)) (nI Y2.2) hC ty_23us.1 ((by omega)) H) (cwV 2 htu hU_X5_162 rfl rfl rfl (by decide +kernel) ⟨show 3 + 1 ≤ 2 * fu + 141 by omega, show 8 + (3 + 11) + 103 ≤ 60 * fu + 6530 by omega⟩) hP hK hD hC hpp cw_2 rfl rfl hl.1 rfl (lv_room (Nat.le_of_ble_eq_true rfl)) dX5_typedField_68) hS hD hh hpp (fun S_37 H locs hw_38 hP hD hS hC hh hs_39 hpq => ?_)
      clear hpp
      have hpp := hpq
      clear hpq
      try dsimp only at hw_38
      have aw_40 : AW [12, 13] [] S_17 S_37 := hw_38.1
      have aw_40t : AW [6, 7, 8, 9, 16, 14, 10, 11, 12, 13, 17, 18, 23, 24, 25, 26, 35] [8, 9, 10, 12, 13] S S_37 := aw_20t.tr (aw_40.mono (by decide) (by decide))
      have kk_41 : kK S_37 15 = 0 := (aw_40.2.1 15 (lt35 (by decide)) (by decide)).2.trans kk_21
      have tj_42 : TJ S_37 N := TJ.aw tj_22 aw_40 (by decide)
      obtain ⟨ty_43, ty_431, ty_432, ty_433⟩ := hw_38.2
      have us_44 := US.ty ty_23us ty_43 aw_40 (by decide) (by decide)
      have ty_43k : KT S_37 Y2.1 := ty_23yc.1.aw aw_40 (by decide)
      have ty_43kq : KQ S_37 Y2.1 := ty_23yc.2.1.aw aw_40 (by decide) rfl rfl
      have ty_43yc := YC.stg ty_23yc aw_40 ty_433 (show Y ≤ Y by omega) (by decide) (by decide)
      have ty_4313 : S_37.1 13 = -9 := (aw_40.1 13 (by decide)).trans ty_2313
      refine lv_aload_n hx hb dX5_typedField_71 rfl (lv_at hl 3 rfl) ?_
      refine va_get (D := gD G) (ci := 5) (v := .ref (ga G 2)) (C := RX5) (T := TX5) (N := 15) hx hb htu cu_in5 hown hK hP 4 cw_4 rfl 1 (by decide) (htu _ C_45) (fun _ h9 => h9) rfl dX5_typedField_72 ?_
      refine lv_iload hx hb dX5_typedField_75 (lv_at hl 0 rfl) ?_
      have ya_45T : nT Y2.1 = (tx_12T + 1) := ty_43yc.1.1.1.symm.trans us_44.1.1.1
      have hC0 := hC
      refine c_ci (c_runV (As := [.int (nI Y)]) (rest := []) (q0 := 2) (ci := 4) ⟨hx, hb, hml, hown, htu⟩ (x_addRecord l G S_37 ((tx_12T + 1)) ((tx_12V + 1)) ((tx_12V + 1)) tx_12X ((Y + 1)) tx_12Z Y Y2.1 ([tr 1 n9]) ([Y2.2]) hC us_44.1 rfl ((by omega)) ty_43yc.1 ty_23z0 rfl ((show (1 : Nat) ≤ 6 from Nat.le_of_ble_eq_true rfl)) ((fun k hk => by obtain rfl : k = 0 := Nat.lt_one_iff.mp hk; exact ⟨ty_431, ty_432, ty_23lt, hla26⟩)) H) (cwV 1 htu hU_X5_165 rfl rfl rfl (by decide +kernel) ⟨show 4 + 1 ≤ 2 * fu + 141 by omega, show 8 + (6 + 11) + 128 ≤ 60 * fu + 6530 by omega⟩) hP hK hD hC hpp cw_2 rfl rfl hl.1 rfl (lv_room (Nat.le_of_ble_eq_true rfl)) dX5_typedField_77) hS hD hh hpp (fun r_46 S_47 H locs hw_48 hP hD hS hC hh hs_49 hpq => ?_)
      clear hpp
      have hpp := hpq
      clear hpq
      try dsimp only at hw_48
      have aw_50 : AW [6, 7, 8, 9, 16, 10, 11, 12, 13] [] S_37 S_47 := hw_48.1
      have aw_50t : AW [6, 7, 8, 9, 16, 14, 10, 11, 12, 13, 17, 18, 23, 24, 25, 26, 35] [8, 9, 10, 12, 13] S S_47 := aw_40t.tr (aw_50.mono (by decide) (by decide))
      have kk_51 : kK S_47 15 = 0 := (aw_50.2.1 15 (lt35 (by decide)) (by decide)).2.trans kk_41
      have tj_52 : TJ S_47 N := TJ.aw tj_42 aw_50 (by decide)
      have hw_489 := hw_48.2
      clear hw_48
      rcases hw_489 with ⟨ty_53v, ty_53s, ty_53f⟩ | ⟨ty_53v, ty_53t, ty_53, ty_53o, ⟨ty_53kt, ty_53k2, ty_53k0⟩, ty_53l, ty_5312, ty_5313s⟩
      · skip
        subst ty_53v
        have ty_53ask : askn Y2.1 = n9 := (askn_fr e2)
        have ty_53Y : Y3 = (stops Y2.1 1 n9, 0) := e3.trans (by rw [mkR_f ty_23z0 ty_53f, ty_53ask])
        have ty_53yc : YC S S_47 Y tm (0 + cntT tr fu (tr 10 n9)) gs z Y3.1 tx_12t tx_12gs := by rw [ty_53Y, ty_53s]; exact yc_stops ty_43yc 1 n9 (by decide) ty_23z0
        have ty_53st : sto Y3.1 = 1 := by rw [ty_53Y]; exact sto_sp9 ty_23z0
        have ty_53zz : sto Y3.1 ≠ 0 := by rw [ty_53st]; decide
        have ty_53hv : (-6 : Int32) = sc (sto Y3.1) := by rw [ty_53st]; rfl
        have ty_53pl : PL S_47 Y3.1 n9 := by rw [ty_53Y, ty_53s]; exact pl_stops ty_23z0 ty_4313
        have ty_53tx : TX S_47 T V Y q (6 * (fu + 1) + 372) (-6) := by rw [ty_53s]; exact US.txb us_44 (by omega) (by omega) (by decide)
        refine lv_istore (lv' := [(7, .int ((-6))), (6, .int (nI Y)), (5, .int (nI Y2.2)), (4, .int (nI Y1.2)), (0, .ref (ga G 4)), (1, .int (nI n9)), (2, .int (nI lv)), (3, .int (nI dp))]) hx hb dX5_typedField_80 hl (by decide) rfl (fun ls hl => ?_)
        refine lv_iload hx hb dX5_typedField_82 (lv_at hl 0 rfl) ?_
        refine lv_if_ge (tgt := 92) hx hb dX5_typedField_84 (by decide) (fun c_54 => absurd c_54 (by decide)) (fun c_54 => ?_)
        refine lv_iload hx hb dX5_typedField_87 (lv_at hl 0 rfl) ?_
        refine lv_goto (tgt := 101) hx hb dX5_typedField_89 (by decide) ?_
        refine lv_istore (lv' := [(8, .int ((-6))), (7, .int ((-6))), (6, .int (nI Y)), (5, .int (nI Y2.2)), (4, .int (nI Y1.2)), (0, .ref (ga G 4)), (1, .int (nI n9)), (2, .int (nI lv)), (3, .int (nI dp))]) hx hb dX5_typedField_101 hl (by decide) rfl (fun ls hl => ?_)
        refine lv_iload hx hb dX5_typedField_103 (lv_at hl 0 rfl) ?_
        refine lv_if_ge (tgt := 113) hx hb dX5_typedField_105 (by decide) (fun c_55 => absurd c_55 (by decide)) (fun c_55 => ?_)
        refine lv_iload hx hb dX5_typedField_108 (lv_at hl 0 rfl) ?_
        refine lv_goto (tgt := 115) hx hb dX5_typedField_110 (by decide) ?_
        have sm_56_3 : SM Y3.1 Y4 := by rw [e4]; exact (sm_puts _ _ _ ty_53zz)
        have sm_56_3h : sto Y4 ≠ 0 := sm_56_3.ne ty_53zz
        exact c_iret (v := (-6)) hx hb hr hK hP hD hS hC hh hpp ⟨aw_50t, ⟨ty_53tx, yf_bad (YC.cm ty_53yc (by omega)) ty_53zz sm_56_3 ty_53hv ty_53pl er⟩⟩ dX5_typedField_115 hlocks
      · skip
        have ty_53us := US.ty us_44 ty_53 aw_50 (by decide) (by decide)
        obtain ⟨ty_53ut, ty_53uv, ty_53ub, ty_53ux⟩ := id ty_53us.1.2.1
        have ty_53nt : nT (mkR Y2.1 [tr 1 n9] [Y2.2]).1 = nT Y2.1 + 1 := by rw [mkR_e ty_23z0 (by rw [ya_45T]; exact Nat.ne_of_lt ty_53t)]; rfl
        have ty_53kq := kq_rec (a := [tr 1 n9]) (b := [Y2.2]) ty_43yc.2.1 aw_50 (by rw [ya_45T]; exact ty_53l) (ty_53.1.2.2.2.2.1.trans (by rw [ya_45T])) ty_23z0 (by rw [ya_45T]; exact Nat.ne_of_lt ty_53t)
        have ty_53yc : YC S S_47 Y tm (0 + cntT tr fu (tr 10 n9)) gs z Y3.1 tx_12t tx_12gs := by rw [e3]; exact YC.leaf2 ty_43yc aw_50 ty_53kt ty_53kq (by decide) (by decide) (k_mkR _ _ _) (Nat.le_of_lt (by rw [ty_53nt]; exact Nat.lt_succ_self _)) ((wc_mkR _ _ _).2) ty_23z0 (fun j hj => by rw [ty_5312, ty_5313s]; exact ⟨rfl, rfl⟩)
        have ty_53z0 : sto Y3.1 = 0 := by rw [e3]; exact ty_53k0
        have ty_53sq : stp Y3.1 = tx_12q := by rw [e3]; exact ((wc_mkR _ _ _).2).trans ty_23sq
        have ty_532 : Y3.2 = (tx_12T + 1) := by rw [e3]; exact ty_53k2
        have ty_53nm : nT Y2.1 ≤ nT Y3.1 := by rw [e3, ty_53nt]; exact Nat.le_succ _
        have ty_53lt : Y3.2 < nT Y3.1 := by rw [ty_532, e3, ty_53nt, ya_45T]; exact Nat.lt_succ_self _
        have ty_5313 : S_47.1 13 = -9 := (aw_50.1 13 (by decide)).trans ty_4313
        obtain rfl : r_46 = nI Y3.2 := ty_53v.trans (by rw [ty_532])
        have vl_57 : Y1.2 < nT Y3.1 := Nat.lt_of_lt_of_le vl_26 ty_53nm
        have vl_58 : Y2.2 < nT Y3.1 := Nat.lt_of_lt_of_le ty_23lt ty_53nm
        refine lv_istore (lv' := [(7, .int (nI Y3.2)), (6, .int (nI Y)), (5, .int (nI Y2.2)), (4, .int (nI Y1.2)), (0, .ref (ga G 4)), (1, .int (nI n9)), (2, .int (nI lv)), (3, .int (nI dp))]) hx hb dX5_typedField_80 hl (by decide) rfl (fun ls hl => ?_)
        refine lv_iload hx hb dX5_typedField_82 (lv_at hl 0 rfl) ?_
        refine lv_if_ge (tgt := 92) hx hb dX5_typedField_84 (by decide) (fun c_59 => ?_) (fun c_59 => absurd (Int32.not_lt.mp (nI_n0 (by omega))) c_59)
        refine lv_aload_n hx hb dX5_typedField_92 rfl (lv_at hl 4 rfl) ?_
        refine lv_iload hx hb dX5_typedField_93 (lv_at hl 3 rfl) ?_
        refine lv_iload hx hb dX5_typedField_95 (lv_at hl 0 rfl) ?_
        refine lv_iconst (v := 1) hx hb dX5_typedField_97 (by decide) ?_
        have ya_60 := yc_askn ty_53yc n9
        have hC0 := hC
        refine c_ci (c_runV (As := [.int (nI Y1.2), .int (nI Y3.2), .int 1]) (rest := []) (q0 := 4) (ci := 5) ⟨hx, hb, hml, hown, htu⟩ ((x_under_all 60) l G S_47 (((tx_12T + 1) + 1)) ((tx_12V + 1)) ((tx_12X + ((Y + 1) - Y))) Y tx_12Z tx_12q 1 ((w1 Y3.1 0 5 n9)) Y1.2 Y3.2 tx_12t hC ty_53us ((by omega)) kk_51 ((show 1 + 60 = 61 by decide)) ((by omega)) ya_60.1 ya_60.2.1 ya_60.2.2.1 ya_60.2.2.2.1 ((by have := ya_60.2.2.2.2.1; omega)) ty_53z0 ty_53sq vl_57 ty_53lt H) (cwV 3 htu hU_X5_150 rfl rfl rfl (by decide +kernel) ⟨show (60 + 70) + 1 ≤ 2 * fu + 141 by omega, show 8 + (8 + 11) + (40 * 60 + 3000) ≤ 60 * fu + 6530 by omega⟩) hP hK hD hC hpp cw_4 rfl rfl hl.1 rfl (lv_room (Nat.le_of_ble_eq_true rfl)) dX5_typedField_98) hS hD hh hpp (fun r_61 S_62 H locs hw_63 hP hD hS hC hh hs_64 hpq => ?_)
        clear hpp
        have hpp := hpq
        clear hpq
        try dsimp only at hw_63
        have aw_65 : AW [6, 7, 8, 9, 16, 14, 10, 11, 12, 13, 17, 18, 25, 26, 35] [8, 9, 10, 12] S_47 S_62 := hw_63.1
        have aw_65t : AW [6, 7, 8, 9, 16, 14, 10, 11, 12, 13, 17, 18, 23, 24, 25, 26, 35] [8, 9, 10, 12, 13] S S_62 := aw_50t.tr (aw_65.mono (by decide) (by decide))
        have kk_66 : kK S_62 15 = 0 := (aw_65.2.1 15 (lt35 (by decide)) (by decide)).2.trans kk_51
        have tj_67 : TJ S_62 N := TJ.aw tj_52 aw_65 (by decide)
        have tx_68e : Y4 = un 60 (w1 Y3.1 0 5 n9) Y1.2 Y3.2 := e4.trans (puts_e ty_53z0)
        obtain ⟨tx_68A0, tx_68E⟩ := hw_63.2
        clear hw_63
        have tx_68A := UX.tx tx_68A0
        clear tx_68A0
        rw [← tx_68e] at tx_68E
        obtain ⟨⟨tx_68t, tx_68uc⟩, tx_68M⟩ := tx_68E
        have tx_68yc := yc_under ya_60 tx_68uc aw_65 (by decide) (by rw [tx_68e]; exact k_un _ _ _ _) (by rw [tx_68e]; exact (x_un _ _ _ _).1) (fun _ => ty_53z0)
        have nm_69 : nT Y3.1 ≤ nT Y4 := by rw [tx_68e]; exact (x_un 60 (w1 Y3.1 0 5 n9) _ _).1
        have vl_70 : Y1.2 < nT Y4 := Nat.lt_of_lt_of_le vl_57 nm_69
        have vl_71 : Y2.2 < nT Y4 := Nat.lt_of_lt_of_le vl_58 nm_69
        have vl_72 : Y3.2 < nT Y4 := Nat.lt_of_lt_of_le ty_53lt nm_69
        have tx_6813 : S_62.1 13 = -9 := (aw_65.1 13 (by decide)).trans ty_5313
        rcases Nat.eq_zero_or_pos (sto Y4) with tx_68z | tx_68z
        · skip
          obtain ⟨tx_68v, tx_6812⟩ := tx_68M.1 tx_68z
          subst tx_68v
          obtain ⟨tx_68T, tx_68V, tx_68X, tx_68Z, tx_68q, tx_68u, tx_681, tx_682, tx_683, tx_684⟩ := tx_68A.ok (by decide)
          obtain ⟨tx_68tT, tx_68tV, tx_68tB, tx_68tX⟩ := id tx_68u.1.2.1
          have tx_68sq : stp Y4 = tx_68q := (nI_eq (by have := tx_68yc.2.2.2.2.1; omega) (by omega)).mp (tx_6812.symm.trans tx_68u.2.1)
          clear tx_68A tx_68M
          refine lv_istore (lv' := [(8, .int 0), (7, .int (nI Y3.2)), (6, .int (nI Y)), (5, .int (nI Y2.2)), (4, .int (nI Y1.2)), (0, .ref (ga G 4)), (1, .int (nI n9)), (2, .int (nI lv)), (3, .int (nI dp))]) hx hb dX5_typedField_101 hl (by decide) rfl (fun ls hl => ?_)
          refine lv_iload hx hb dX5_typedField_103 (lv_at hl 0 rfl) ?_
          refine lv_if_ge (tgt := 113) hx hb dX5_typedField_105 (by decide) (fun c_73 => ?_) (fun c_73 => absurd (by decide) c_73)
          refine lv_iload hx hb dX5_typedField_113 (lv_at hl 3 rfl) ?_
          exact c_iret (v := nI Y2.2) hx hb hr hK hP hD hS hC hh hpp ⟨aw_65t, ⟨US.tx tx_68u (by omega) _, yf_good (YC.cm tx_68yc (by omega)) tx_68z rfl vl_71 (tx_68u.2.1.trans (by rw [tx_68sq])) tx_6813 er⟩⟩ dX5_typedField_115 hlocks
        · skip
          have tx_68zz : sto Y4 ≠ 0 := Nat.ne_of_gt tx_68z
          have tx_68v := tx_68M.2 tx_68zz
          have tx_68nn : ¬ 0 ≤ r_61 := Int32.not_le.mpr (by rw [tx_68v]; exact sc_neg tx_68zz)
          clear tx_68M
          refine lv_istore (lv' := [(8, .int r_61), (7, .int (nI Y3.2)), (6, .int (nI Y)), (5, .int (nI Y2.2)), (4, .int (nI Y1.2)), (0, .ref (ga G 4)), (1, .int (nI n9)), (2, .int (nI lv)), (3, .int (nI dp))]) hx hb dX5_typedField_101 hl (by decide) rfl (fun ls hl => ?_)
          refine lv_iload hx hb dX5_typedField_103 (lv_at hl 0 rfl) ?_
          refine lv_if_ge (tgt := 113) hx hb dX5_typedField_105 (by decide) (fun c_74 => absurd c_74 tx_68nn) (fun c_74 => ?_)
          refine lv_iload hx hb dX5_typedField_108 (lv_at hl 0 rfl) ?_
          refine lv_goto (tgt := 115) hx hb dX5_typedField_110 (by decide) ?_
          exact c_iret (v := r_61) hx hb hr hK hP hD hS hC hh hpp ⟨aw_65t, ⟨(TX.bad tx_68A (by omega) (Int32.not_le.mp tx_68nn)), yf_bad (YC.cm tx_68yc (by omega)) tx_68zz SM.rf tx_68v (pl_wh (by rw [tx_68e]; exact wh_un 60 _ _ _) ty_53z0 tx_68zz tx_6813) er⟩⟩ dX5_typedField_115 hlocks
  · skip
    have tx_12zz : sto Y1.1 ≠ 0 := Nat.ne_of_gt tx_12z
    obtain ⟨tx_12v, tx_12p⟩ := tx_12b tx_12zz
    have tx_12nn : ¬ 0 ≤ r_5 := Int32.not_le.mpr (by rw [tx_12v]; exact sc_neg tx_12zz)
    clear tx_12g tx_12b
    refine lv_istore (lv' := [(4, .int r_5), (0, .ref (ga G 4)), (1, .int (nI n9)), (2, .int (nI lv)), (3, .int (nI dp))]) hx hb dX5_typedField_17 hl (by decide) rfl (fun ls hl => ?_)
    refine lv_iload hx hb dX5_typedField_19 (lv_at hl 0 rfl) ?_
    refine lv_if_ge (tgt := 27) hx hb dX5_typedField_21 (by decide) (fun c_76 => absurd c_76 tx_12nn) (fun c_76 => ?_)
    refine lv_iload hx hb dX5_typedField_24 (lv_at hl 0 rfl) ?_
    have sm_77_1 : SM Y1.1 Y2.1 := by rw [e2]; exact (sm_fresh _ _ tx_12zz)
    have sm_77_1h : sto Y2.1 ≠ 0 := sm_77_1.ne tx_12zz
    have sm_77_2 : SM Y2.1 Y3.1 := by rw [e3]; exact (sm_mkR _ _ sm_77_1h)
    have sm_77_2h : sto Y3.1 ≠ 0 := sm_77_2.ne sm_77_1h
    have sm_77_3 : SM Y3.1 Y4 := by rw [e4]; exact (sm_puts _ _ _ sm_77_2h)
    have sm_77_3h : sto Y4 ≠ 0 := sm_77_3.ne sm_77_2h
    exact c_iret (v := r_5) hx hb hr hK hP hD hS hC hh hpp ⟨aw_9t, ⟨(TX.bad tx_12A (by omega) (Int32.not_le.mp tx_12nn)), yf_bad (YC.cm tx_12yc (by omega)) tx_12zz ((sm_77_1.tr sm_77_2).tr sm_77_3) tx_12v (Or.inl tx_12p) er⟩⟩ dX5_typedField_26 hlocks

