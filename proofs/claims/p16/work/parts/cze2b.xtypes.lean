set_option maxHeartbeats 4000000 in
set_option maxRecDepth 100000 in
/-- wasAsked -/
theorem x_wasAsked (l : Launch) (G : cG) (S : cS) (T : Nat) (V : Nat) (VP : Nat) (X : Nat) (Y : Nat) (Z : Nat) (z : aS) (a9 : Nat) (b9 : Nat) (hC : CL S) (hY : TY S T V VP X Y Z) (hlt : Z < 1501) (hq : KQ S z) (hn6 : nT z ≤ 602) (ha : a9 < nT z) (hb9 : b9 < nT z) (Hs : Heap) : Met l yX4_wasAsked (wC yX4_wasAsked cX4_wasAsked 7 (some .boolean)) (cRm S 3 103) (cPc G S Hs [.ref (ga G 2), .int (nI a9), .int (nI b9)]) (cQi G S Hs (fun v u => AW [16, 17, 18] [] S u ∧ ((v = 1 ∧ u = S ∧ (a9, b9) ∈ z.2.2) ∨ (v = 0 ∧ (a9, b9) ∉ z.2.2 ∧ TY u T V VP X Y (Z + 1) ∧ KQ u (asked z a9 b9))))) (CC - PT S) (12 * (CC - PT S)) (cA G S Hs.size) := by
  refine Met.ofW (cc := cX4_wasAsked) (maxL := 7) (ret := (some .boolean)) (by decide) rfl ?_
  intro p e s m args below meth c s₁ B hml hv
  obtain ⟨rfl, hsz, hP, hK, hD0, -⟩ := hv
  have hx := B.exec
  have hb := B.bytes
  have hr := B.returns
  have htu : ∀ w ∈ CU, w.before _ s = true := fun w h => atoms_spec (ws := (wC yX4_wasAsked cX4_wasAsked 7 (some .boolean))) B.pre w (List.mem_cons_of_mem _ h)
  have hown : s.vm.findClass RX4 = some m.cls := findClass_of_methodNamed B.named
  have hlocks := B.notSynchronized
  subst hsz
  have hD : cD (cA G S s.heap.size) G S := cD_self hD0
  have hl := lv_entry ([.ref (ga G 2), .int (nI a9), .int (nI b9)]) (n := 7) (Nat.le_of_ble_eq_true rfl)
  rw [lg_entry_eq]
  generalize (lg_sl ([.ref (ga G 2), .int (nI a9), .int (nI b9)]) ++ List.replicate (7 - (lg_sl ([.ref (ga G 2), .int (nI a9), .int (nI b9)])).length) Slot.unset).toArray = ls at hl ⊢
  have hl : lv_has ls 7 [(0, .ref (ga G 2)), (1, .int (nI a9)), (2, .int (nI b9))] := hl
  obtain ⟨H, hHe⟩ : ∃ H : Heap, H = s.heap := ⟨_, rfl⟩
  rw [← hHe] at hP
  have hS : va_S (cA G S s.heap.size) s.heap H [] := by rw [hHe]; exact va_S.rf
  have hh : HS S S := HS.rf
  have hpp : PT S ≤ PT S := Nat.le_refl _
  have hB9 := hC.1
  refine W.heq hHe ?_
  refine c_ent (S := S) ?_
  obtain ⟨⟨k6, k7, k8, k9, k16, k14, k10, k11, k12, k13, k17, k18⟩, ⟨tT, tV, tB, tX⟩, tv, tr, ts⟩ := id hY
  have hZz : Z = z.2.2.length := k17.symm.trans hq.1
  have hTz : nT z = T := hq.2.2.1.symm.trans k16
  refine lv_aload_n hx hb dX4_wasAsked_0 rfl (lv_at hl 0 rfl) ?_
  refine va_get (D := gD G) (ci := 4) (v := .ref (kH S 17)) (C := RX4) (T := TX4) (N := 14) hx hb htu cu_in4 hown hK hP 2 cw_2 rfl 12 (by decide) (htu _ C_78) (fun _ h9 => h9) rfl dX4_wasAsked_1 ?_
  refine va_get (D := gD G) (ci := 0) (v := .int (nI Z)) (C := RX0) (T := TX0) (N := 2) hx hb htu cu_in0 hown hK hP (2 * 17 + 13) (c_hd rfl (cw_row (lt35 (by decide)))) rfl 1 (by decide) (htu _ C_94) (fun _ h9 => h9) (m_v (congrArg nI k17)) dX4_wasAsked_4 ?_
  refine lv_istore_n (lv' := [(3, .int (nI Z)), (0, .ref (ga G 2)), (1, .int (nI a9)), (2, .int (nI b9))]) hx hb dX4_wasAsked_7 rfl hl (by decide) rfl (fun ls hl => ?_)
  refine lv_aload_n hx hb dX4_wasAsked_8 rfl (lv_at hl 1 rfl) ?_
  refine va_get (D := gD G) (ci := 4) (v := .ref (kH S 16)) (C := RX4) (T := TX4) (N := 14) hx hb htu cu_in4 hown hK hP 2 cw_2 rfl 11 (by decide) (htu _ C_77) (fun _ h9 => h9) rfl dX4_wasAsked_9 ?_
  refine lv_iload_n hx hb dX4_wasAsked_12 rfl (lv_at hl 2 rfl) ?_
  have hC0 := hC
  refine c_ci (c_runV (As := [.int (nI a9)]) (rest := []) (q0 := (2 * 16 + 13)) (ci := 0) ⟨hx, hb, hml, hown, htu⟩ (c_getA l G S 16 (lt35 (by decide)) hC (kH S 16) rfl (nI a9) H) (cwV 1 htu hU_X4_89 rfl rfl rfl (by decide +kernel) ⟨Nat.le_of_ble_eq_true rfl, Nat.le_of_ble_eq_true rfl⟩) hP hK hD hC hpp (c_hd rfl (cw_row (lt35 (by decide)))) rfl rfl hl.1 rfl (lv_room (Nat.le_of_ble_eq_true rfl)) dX4_wasAsked_13) hS hD hh hpp (fun r_1 S_2 H locs hw_3 hP hD hS hC hh hs_4 hpq => ?_)
  clear hpp
  have hpp := hpq
  clear hpq
  obtain ⟨hu9, hw_3⟩ := hw_3
  have hu9 := hu9.symm
  subst hu9
  refine lv_istore (lv' := [(4, .int r_1), (3, .int (nI Z)), (0, .ref (ga G 2)), (1, .int (nI a9)), (2, .int (nI b9))]) hx hb dX4_wasAsked_16 hl (by decide) rfl (fun ls hl => ?_)
  refine lv_iload hx hb dX4_wasAsked_18 (lv_at hl 0 rfl) ?_
  refine lv_istore (lv' := [(5, .int r_1), (4, .int r_1), (3, .int (nI Z)), (0, .ref (ga G 2)), (1, .int (nI a9)), (2, .int (nI b9))]) hx hb dX4_wasAsked_20 hl (by decide) rfl (fun ls hl => ?_)
  refine lv_iconst (v := 0) hx hb dX4_wasAsked_22 (by decide) ?_
  refine lv_istore (lv' := [(6, .int 0), (5, .int r_1), (4, .int r_1), (3, .int (nI Z)), (0, .ref (ga G 2)), (1, .int (nI a9)), (2, .int (nI b9))]) hx hb dX4_wasAsked_23 hl (by decide) rfl (fun ls hl => ?_)
  have hla : r_1 = kF S 16 a9 := hw_3.trans (rget_at (by rw [k16, ← hTz]; exact ha) (by rw [k16]; exact Nat.lt_of_le_of_lt tT (by decide)))
  refine w_loop (fun j H locs k sl g => ∃ (pl : Int32) (bs : List Nat) (i : Nat) (ls : Array Slot), i + j = Z ∧ ch S pl bs ∧ bs.length ≤ j ∧ ((a9, b9) ∈ z.2.2 ↔ b9 ∈ bs) ∧ k = PT S - PT S ∧ sl = 12 * (PT S - PT S) ∧ cP G S H ∧ cD (cA G S s.heap.size) G S ∧ va_S (cA G S s.heap.size) s.heap H locs ∧ lv_has ls 7 [(0, .ref (ga G 2)), (1, .int (nI a9)), (2, .int (nI b9)), (3, .int (nI Z)), (4, .int r_1), (5, .int pl), (6, .int (nI i))] ∧ g = F0 m 25 ls []) ?_ ?_ Z _ _ _ _ _ ⟨r_1, (ask1 z a9), 0, ls, by omega, (by rw [hla]; exact hq.2.2.2.2 a9 ha), (by rw [hZz]; exact ask1_le), ask1_mem.symm, rfl, rfl, hP, hD, hS, lv_sub hl [4, 5, 6, 3, 2, 1, 0] rfl, rfl⟩
  · intro H locs k sl g hI
    obtain ⟨pl, bs, i, ls, hp0, hp1, hp2, hp3, rfl, rfl, hP, hD, hS, hl, rfl⟩ := hI
    have hnot : (a9, b9) ∉ z.2.2 := fun h => by have h1 := hp3.mp h; cases bs with | nil => cases h1 | cons b bs => exact absurd hp2 (Nat.not_succ_le_zero _)
    refine lv_iload hx hb dX4_wasAsked_25 (lv_at hl 6 rfl) ?_
    refine lv_iload_n hx hb dX4_wasAsked_27 rfl (lv_at hl 3 rfl) ?_
    refine lv_icmp_ge (tgt := 70) hx hb dX4_wasAsked_28 (by decide) (fun c_5 => ?_) (fun c_5 => absurd (nI_le (by omega) (by omega)) c_5)
    refine lv_aload_n hx hb dX4_wasAsked_70 rfl (lv_at hl 0 rfl) ?_
    refine va_get (D := gD G) (ci := 4) (v := .ref (kH S 17)) (C := RX4) (T := TX4) (N := 14) hx hb htu cu_in4 hown hK hP 2 cw_2 rfl 12 (by decide) (htu _ C_78) (fun _ h9 => h9) rfl dX4_wasAsked_71 ?_
    refine lv_iload_n hx hb dX4_wasAsked_74 rfl (lv_at hl 2 rfl) ?_
    have hC0 := hC
    refine c_cv (c_runV (As := [.int (nI b9)]) (rest := []) (q0 := (2 * 17 + 13)) (ci := 0) ⟨hx, hb, hml, hown, htu⟩ (c_addA l G S 17 (lt35 (by decide)) hC (kH S 17) rfl (nI b9) (show kK S 17 < lim 17 by rw [k17, lim_17]; omega) H) (cwV 1 htu hU_X4_73 rfl rfl rfl (by decide +kernel) ⟨Nat.le_of_ble_eq_true rfl, Nat.le_of_ble_eq_true rfl⟩) hP hK hD hC hpp (c_hd rfl (cw_row (lt35 (by decide)))) rfl rfl hl.1 rfl (lv_room (Nat.le_of_ble_eq_true rfl)) dX4_wasAsked_75) hS hD hh hpp (fun S_7 H locs hw_8 hP hD hS hC hh hs_9 hpq => ?_)
    clear hpp
    have hpp := hpq
    clear hpq
    try dsimp only at hw_8
    have aw_10 : AW [17] [] S S_7 := (by obtain ⟨_, _, _, h9, -, -⟩ := hw_8; rw [h9]; exact AW.u (by decide))
    have aw_10t : AW [16, 17, 18] [] S S_7 := AW.rf.tr (aw_10.mono (by decide) (by decide))
    have kk_11 : kK S_7 6 = T := (aw_10.2.1 6 (lt35 (by decide)) (by decide)).2.trans k6
    have kk_12 : kK S_7 7 = T := (aw_10.2.1 7 (lt35 (by decide)) (by decide)).2.trans k7
    have kk_13 : kK S_7 8 = T := (aw_10.2.1 8 (lt35 (by decide)) (by decide)).2.trans k8
    have kk_14 : kK S_7 9 = T := (aw_10.2.1 9 (lt35 (by decide)) (by decide)).2.trans k9
    have kk_15 : kK S_7 16 = T := (aw_10.2.1 16 (lt35 (by decide)) (by decide)).2.trans k16
    have kk_16 : kK S_7 14 = V := (aw_10.2.1 14 (lt35 (by decide)) (by decide)).2.trans k14
    have kk_17 : kK S_7 10 = X := (aw_10.2.1 10 (lt35 (by decide)) (by decide)).2.trans k10
    have kk_18 : kK S_7 11 = X := (aw_10.2.1 11 (lt35 (by decide)) (by decide)).2.trans k11
    have kk_19 : kK S_7 12 = Y := (aw_10.2.1 12 (lt35 (by decide)) (by decide)).2.trans k12
    have kk_20 : kK S_7 13 = Y := (aw_10.2.1 13 (lt35 (by decide)) (by decide)).2.trans k13
    have kk_21 : kK S_7 18 = Z := (aw_10.2.1 18 (lt35 (by decide)) (by decide)).2.trans k18
    obtain ⟨ad_22n, ad_22q, ad_22g, ad_22u, ad_221, ad_222⟩ := hw_8
    have kk_23 : kK S_7 17 = Z + 1 := by rw [ad_22u]; exact uR_K.trans (congrArg (· + 1) k17)
    obtain ⟨fF_24a, fF_24b⟩ := ad_F ad_22u ad_221 ad_222
    refine lv_aload_n hx hb dX4_wasAsked_78 rfl (lv_at hl 0 rfl) ?_
    refine va_get (D := gD G) (ci := 4) (v := .ref (kH S 18)) (C := RX4) (T := TX4) (N := 14) hx hb htu cu_in4 hown hK hP 2 cw_2 rfl 13 (by decide) (htu _ C_79) (fun _ h9 => h9) (c_hv (hh.2 18 (lt35 (by decide)))) dX4_wasAsked_79 ?_
    refine lv_iload hx hb dX4_wasAsked_82 (lv_at hl 4 rfl) ?_
    have hC0 := hC
    refine c_cv (c_runV (As := [.int r_1]) (rest := []) (q0 := (2 * 18 + 13)) (ci := 0) ⟨hx, hb, hml, hown, htu⟩ (c_addA l G S_7 18 (lt35 (by decide)) hC (kH S 18) (hh.2 18 (lt35 (by decide))) r_1 (show kK S_7 18 < lim 18 by rw [kk_21, lim_18]; omega) H) (cwV 1 htu hU_X4_73 rfl rfl rfl (by decide +kernel) ⟨Nat.le_of_ble_eq_true rfl, Nat.le_of_ble_eq_true rfl⟩) hP hK hD hC hpp (c_hd (hh.2 18 (lt35 (by decide))) (cw_row (lt35 (by decide)))) rfl rfl hl.1 rfl (lv_room (Nat.le_of_ble_eq_true rfl)) dX4_wasAsked_84) hS hD hh hpp (fun S_26 H locs hw_27 hP hD hS hC hh hs_28 hpq => ?_)
    clear hpp
    have hpp := hpq
    clear hpq
    try dsimp only at hw_27
    have aw_29 : AW [18] [] S_7 S_26 := (by obtain ⟨_, _, _, h9, -, -⟩ := hw_27; rw [h9]; exact AW.u (by decide))
    have aw_29t : AW [16, 17, 18] [] S S_26 := aw_10t.tr (aw_29.mono (by decide) (by decide))
    have kk_30 : kK S_26 6 = T := (aw_29.2.1 6 (lt35 (by decide)) (by decide)).2.trans kk_11
    have kk_31 : kK S_26 7 = T := (aw_29.2.1 7 (lt35 (by decide)) (by decide)).2.trans kk_12
    have kk_32 : kK S_26 8 = T := (aw_29.2.1 8 (lt35 (by decide)) (by decide)).2.trans kk_13
    have kk_33 : kK S_26 9 = T := (aw_29.2.1 9 (lt35 (by decide)) (by decide)).2.trans kk_14
    have kk_34 : kK S_26 16 = T := (aw_29.2.1 16 (lt35 (by decide)) (by decide)).2.trans kk_15
    have kk_35 : kK S_26 14 = V := (aw_29.2.1 14 (lt35 (by decide)) (by decide)).2.trans kk_16
    have kk_36 : kK S_26 10 = X := (aw_29.2.1 10 (lt35 (by decide)) (by decide)).2.trans kk_17
    have kk_37 : kK S_26 11 = X := (aw_29.2.1 11 (lt35 (by decide)) (by decide)).2.trans kk_18
    have kk_38 : kK S_26 12 = Y := (aw_29.2.1 12 (lt35 (by decide)) (by decide)).2.trans kk_19
    have kk_39 : kK S_26 13 = Y := (aw_29.2.1 13 (lt35 (by decide)) (by decide)).2.trans kk_20
    have kk_40 : kK S_26 17 = Z + 1 := (aw_29.2.1 17 (lt35 (by decide)) (by decide)).2.trans kk_23
    obtain ⟨ad_41n, ad_41q, ad_41g, ad_41u, ad_411, ad_412⟩ := hw_27
    have kk_42 : kK S_26 18 = Z + 1 := by rw [ad_41u]; exact uR_K.trans (congrArg (· + 1) kk_21)
    obtain ⟨fF_43a, fF_43b⟩ := ad_F ad_41u ad_411 ad_412
    refine lv_aload_n hx hb dX4_wasAsked_87 rfl (lv_at hl 0 rfl) ?_
    refine va_get (D := gD G) (ci := 4) (v := .ref (kH S 16)) (C := RX4) (T := TX4) (N := 14) hx hb htu cu_in4 hown hK hP 2 cw_2 rfl 11 (by decide) (htu _ C_77) (fun _ h9 => h9) (c_hv (hh.2 16 (lt35 (by decide)))) dX4_wasAsked_88 ?_
    refine lv_iload_n hx hb dX4_wasAsked_91 rfl (lv_at hl 1 rfl) ?_
    refine lv_iload_n hx hb dX4_wasAsked_92 rfl (lv_at hl 3 rfl) ?_
    have hC0 := hC
    refine c_cv (c_runV (As := [.int (nI a9), .int (nI Z)]) (rest := []) (q0 := (2 * 16 + 13)) (ci := 0) ⟨hx, hb, hml, hown, htu⟩ (c_setA l G S_26 16 (lt35 (by decide)) hC (kH S 16) (hh.2 16 (lt35 (by decide))) (nI a9) (nI Z) H) (cwV 2 htu hU_X4_101 rfl rfl rfl (by decide +kernel) ⟨Nat.le_of_ble_eq_true rfl, Nat.le_of_ble_eq_true rfl⟩) hP hK hD hC hpp (c_hd (hh.2 16 (lt35 (by decide))) (cw_row (lt35 (by decide)))) rfl rfl hl.1 rfl (lv_room (Nat.le_of_ble_eq_true rfl)) dX4_wasAsked_93) hS hD hh hpp (fun S_45 H locs hw_46 hP hD hS hC hh hs_47 hpq => ?_)
    clear hpp
    have hpp := hpq
    clear hpq
    try dsimp only at hw_46
    have aw_48 : AW [16] [] S_26 S_45 := (by rw [hw_46]; exact AW.u (by decide))
    have aw_48t : AW [16, 17, 18] [] S S_45 := aw_29t.tr (aw_48.mono (by decide) (by decide))
    have kk_49 : kK S_45 6 = T := (aw_48.2.1 6 (lt35 (by decide)) (by decide)).2.trans kk_30
    have kk_50 : kK S_45 7 = T := (aw_48.2.1 7 (lt35 (by decide)) (by decide)).2.trans kk_31
    have kk_51 : kK S_45 8 = T := (aw_48.2.1 8 (lt35 (by decide)) (by decide)).2.trans kk_32
    have kk_52 : kK S_45 9 = T := (aw_48.2.1 9 (lt35 (by decide)) (by decide)).2.trans kk_33
    have kk_53 : kK S_45 14 = V := (aw_48.2.1 14 (lt35 (by decide)) (by decide)).2.trans kk_35
    have kk_54 : kK S_45 10 = X := (aw_48.2.1 10 (lt35 (by decide)) (by decide)).2.trans kk_36
    have kk_55 : kK S_45 11 = X := (aw_48.2.1 11 (lt35 (by decide)) (by decide)).2.trans kk_37
    have kk_56 : kK S_45 12 = Y := (aw_48.2.1 12 (lt35 (by decide)) (by decide)).2.trans kk_38
    have kk_57 : kK S_45 13 = Y := (aw_48.2.1 13 (lt35 (by decide)) (by decide)).2.trans kk_39
    have kk_58 : kK S_45 17 = Z + 1 := (aw_48.2.1 17 (lt35 (by decide)) (by decide)).2.trans kk_40
    have kk_59 : kK S_45 18 = Z + 1 := (aw_48.2.1 18 (lt35 (by decide)) (by decide)).2.trans kk_42
    have kk_60 : kK S_45 16 = T := by rw [hw_46]; exact uR_K.trans kk_34
    refine lv_iconst (v := 0) hx hb dX4_wasAsked_96 (by decide) ?_
    have q17 : kF S_45 17 = kF S_7 17 := ((aw_48.2.1 17 (lt35 (by decide)) (by decide)).1).trans ((aw_29.2.1 17 (lt35 (by decide)) (by decide)).1)
    have q18 : kF S_45 18 = kF S_26 18 := (aw_48.2.1 18 (lt35 (by decide)) (by decide)).1
    have q18k : kK S_7 18 = Z := ((aw_10.2.1 18 (lt35 (by decide)) (by decide)).2).trans k18
    have q18o : kF S_7 18 = kF S 18 := (aw_10.2.1 18 (lt35 (by decide)) (by decide)).1
    have q16 : kF S_26 16 = kF S 16 := ((aw_29.2.1 16 (lt35 (by decide)) (by decide)).1).trans ((aw_10.2.1 16 (lt35 (by decide)) (by decide)).1)
    have q16k : kK S_26 16 = T := (((aw_29.2.1 16 (lt35 (by decide)) (by decide)).2).trans ((aw_10.2.1 16 (lt35 (by decide)) (by decide)).2)).trans k16
    have q16s : kF S_45 16 = upd (kF S 16) a9 (nI Z) := by rw [hw_46, uR_F, q16k, rset_at (by rw [← hTz]; exact ha) (Nat.lt_of_le_of_lt tT (by decide)), q16]
    have qf : KQ S_45 (asked z a9 b9) := kq_asked (m := Z) hq ha hb9 hn6 (Nat.lt_trans hlt (by decide)) hZz ⟨kk_58, by rw [q17, ← k17]; exact fF_24b, fun p hp => by rw [q17]; exact fF_24a p (by rw [k17]; exact hp)⟩ ⟨kk_59, by rw [q18, ← q18k, fF_43b]; exact hla, fun p hp => by rw [q18, fF_43a p (by rw [q18k]; exact hp), q18o]⟩ ⟨kk_60.trans hTz.symm, by rw [q16s]; exact upd_s, fun t _ ht => by rw [q16s]; exact upd_n ht⟩
    exact c_zret (v := 0) hx hb hr hK hP hD hS hC hh hpp rfl ⟨aw_48t, (Or.inr ⟨rfl, hnot, hY.las aw_48t kk_60 kk_58 kk_59, qf⟩)⟩ dX4_wasAsked_97 hlocks
  · intro j ih9 H locs k sl g hI
    obtain ⟨pl, bs, i, ls, hp0, hp1, hp2, hp3, rfl, rfl, hP, hD, hS, hl, rfl⟩ := hI
    refine lv_iload hx hb dX4_wasAsked_25 (lv_at hl 6 rfl) ?_
    refine lv_iload_n hx hb dX4_wasAsked_27 rfl (lv_at hl 3 rfl) ?_
    refine lv_icmp_ge (tgt := 70) hx hb dX4_wasAsked_28 (by decide) (fun c_61 => absurd c_61 (nI_ge (by omega) (by omega))) (fun c_61 => ?_)
    refine lv_iload hx hb dX4_wasAsked_31 (lv_at hl 5 rfl) ?_
    refine lv_bipush (v := (-9)) hx hb dX4_wasAsked_33 (by decide) ?_
    refine lv_icmp_eq (tgt := 70) hx hb dX4_wasAsked_35 (by decide) (fun c_62 => ?_) (fun c_62 => ?_)
    · skip
      have hnot : (a9, b9) ∉ z.2.2 := fun h => by have h1 := hp3.mp h; have h2 := hp1; rw [c_62] at h2; rw [ch_9 h2] at h1; cases h1
      refine lv_aload_n hx hb dX4_wasAsked_70 rfl (lv_at hl 0 rfl) ?_
      refine va_get (D := gD G) (ci := 4) (v := .ref (kH S 17)) (C := RX4) (T := TX4) (N := 14) hx hb htu cu_in4 hown hK hP 2 cw_2 rfl 12 (by decide) (htu _ C_78) (fun _ h9 => h9) rfl dX4_wasAsked_71 ?_
      refine lv_iload_n hx hb dX4_wasAsked_74 rfl (lv_at hl 2 rfl) ?_
      have hC0 := hC
      refine c_cv (c_runV (As := [.int (nI b9)]) (rest := []) (q0 := (2 * 17 + 13)) (ci := 0) ⟨hx, hb, hml, hown, htu⟩ (c_addA l G S 17 (lt35 (by decide)) hC (kH S 17) rfl (nI b9) (show kK S 17 < lim 17 by rw [k17, lim_17]; omega) H) (cwV 1 htu hU_X4_73 rfl rfl rfl (by decide +kernel) ⟨Nat.le_of_ble_eq_true rfl, Nat.le_of_ble_eq_true rfl⟩) hP hK hD hC hpp (c_hd rfl (cw_row (lt35 (by decide)))) rfl rfl hl.1 rfl (lv_room (Nat.le_of_ble_eq_true rfl)) dX4_wasAsked_75) hS hD hh hpp (fun S_64 H locs hw_65 hP hD hS hC hh hs_66 hpq => ?_)
      clear hpp
      have hpp := hpq
      clear hpq
      try dsimp only at hw_65
      have aw_67 : AW [17] [] S S_64 := (by obtain ⟨_, _, _, h9, -, -⟩ := hw_65; rw [h9]; exact AW.u (by decide))
      have aw_67t : AW [16, 17, 18] [] S S_64 := AW.rf.tr (aw_67.mono (by decide) (by decide))
      have kk_68 : kK S_64 6 = T := (aw_67.2.1 6 (lt35 (by decide)) (by decide)).2.trans k6
      have kk_69 : kK S_64 7 = T := (aw_67.2.1 7 (lt35 (by decide)) (by decide)).2.trans k7
      have kk_70 : kK S_64 8 = T := (aw_67.2.1 8 (lt35 (by decide)) (by decide)).2.trans k8
      have kk_71 : kK S_64 9 = T := (aw_67.2.1 9 (lt35 (by decide)) (by decide)).2.trans k9
      have kk_72 : kK S_64 16 = T := (aw_67.2.1 16 (lt35 (by decide)) (by decide)).2.trans k16
      have kk_73 : kK S_64 14 = V := (aw_67.2.1 14 (lt35 (by decide)) (by decide)).2.trans k14
      have kk_74 : kK S_64 10 = X := (aw_67.2.1 10 (lt35 (by decide)) (by decide)).2.trans k10
      have kk_75 : kK S_64 11 = X := (aw_67.2.1 11 (lt35 (by decide)) (by decide)).2.trans k11
      have kk_76 : kK S_64 12 = Y := (aw_67.2.1 12 (lt35 (by decide)) (by decide)).2.trans k12
      have kk_77 : kK S_64 13 = Y := (aw_67.2.1 13 (lt35 (by decide)) (by decide)).2.trans k13
      have kk_78 : kK S_64 18 = Z := (aw_67.2.1 18 (lt35 (by decide)) (by decide)).2.trans k18
      obtain ⟨ad_79n, ad_79q, ad_79g, ad_79u, ad_791, ad_792⟩ := hw_65
      have kk_80 : kK S_64 17 = Z + 1 := by rw [ad_79u]; exact uR_K.trans (congrArg (· + 1) k17)
      obtain ⟨fF_81a, fF_81b⟩ := ad_F ad_79u ad_791 ad_792
      refine lv_aload_n hx hb dX4_wasAsked_78 rfl (lv_at hl 0 rfl) ?_
      refine va_get (D := gD G) (ci := 4) (v := .ref (kH S 18)) (C := RX4) (T := TX4) (N := 14) hx hb htu cu_in4 hown hK hP 2 cw_2 rfl 13 (by decide) (htu _ C_79) (fun _ h9 => h9) (c_hv (hh.2 18 (lt35 (by decide)))) dX4_wasAsked_79 ?_
      refine lv_iload hx hb dX4_wasAsked_82 (lv_at hl 4 rfl) ?_
      have hC0 := hC
      refine c_cv (c_runV (As := [.int r_1]) (rest := []) (q0 := (2 * 18 + 13)) (ci := 0) ⟨hx, hb, hml, hown, htu⟩ (c_addA l G S_64 18 (lt35 (by decide)) hC (kH S 18) (hh.2 18 (lt35 (by decide))) r_1 (show kK S_64 18 < lim 18 by rw [kk_78, lim_18]; omega) H) (cwV 1 htu hU_X4_73 rfl rfl rfl (by decide +kernel) ⟨Nat.le_of_ble_eq_true rfl, Nat.le_of_ble_eq_true rfl⟩) hP hK hD hC hpp (c_hd (hh.2 18 (lt35 (by decide))) (cw_row (lt35 (by decide)))) rfl rfl hl.1 rfl (lv_room (Nat.le_of_ble_eq_true rfl)) dX4_wasAsked_84) hS hD hh hpp (fun S_83 H locs hw_84 hP hD hS hC hh hs_85 hpq => ?_)
      clear hpp
      have hpp := hpq
      clear hpq
      try dsimp only at hw_84
      have aw_86 : AW [18] [] S_64 S_83 := (by obtain ⟨_, _, _, h9, -, -⟩ := hw_84; rw [h9]; exact AW.u (by decide))
      have aw_86t : AW [16, 17, 18] [] S S_83 := aw_67t.tr (aw_86.mono (by decide) (by decide))
      have kk_87 : kK S_83 6 = T := (aw_86.2.1 6 (lt35 (by decide)) (by decide)).2.trans kk_68
      have kk_88 : kK S_83 7 = T := (aw_86.2.1 7 (lt35 (by decide)) (by decide)).2.trans kk_69
      have kk_89 : kK S_83 8 = T := (aw_86.2.1 8 (lt35 (by decide)) (by decide)).2.trans kk_70
      have kk_90 : kK S_83 9 = T := (aw_86.2.1 9 (lt35 (by decide)) (by decide)).2.trans kk_71
      have kk_91 : kK S_83 16 = T := (aw_86.2.1 16 (lt35 (by decide)) (by decide)).2.trans kk_72
      have kk_92 : kK S_83 14 = V := (aw_86.2.1 14 (lt35 (by decide)) (by decide)).2.trans kk_73
      have kk_93 : kK S_83 10 = X := (aw_86.2.1 10 (lt35 (by decide)) (by decide)).2.trans kk_74
      have kk_94 : kK S_83 11 = X := (aw_86.2.1 11 (lt35 (by decide)) (by decide)).2.trans kk_75
      have kk_95 : kK S_83 12 = Y := (aw_86.2.1 12 (lt35 (by decide)) (by decide)).2.trans kk_76
      have kk_96 : kK S_83 13 = Y := (aw_86.2.1 13 (lt35 (by decide)) (by decide)).2.trans kk_77
      have kk_97 : kK S_83 17 = Z + 1 := (aw_86.2.1 17 (lt35 (by decide)) (by decide)).2.trans kk_80
      obtain ⟨ad_98n, ad_98q, ad_98g, ad_98u, ad_981, ad_982⟩ := hw_84
      have kk_99 : kK S_83 18 = Z + 1 := by rw [ad_98u]; exact uR_K.trans (congrArg (· + 1) kk_78)
      obtain ⟨fF_100a, fF_100b⟩ := ad_F ad_98u ad_981 ad_982
      refine lv_aload_n hx hb dX4_wasAsked_87 rfl (lv_at hl 0 rfl) ?_
      refine va_get (D := gD G) (ci := 4) (v := .ref (kH S 16)) (C := RX4) (T := TX4) (N := 14) hx hb htu cu_in4 hown hK hP 2 cw_2 rfl 11 (by decide) (htu _ C_77) (fun _ h9 => h9) (c_hv (hh.2 16 (lt35 (by decide)))) dX4_wasAsked_88 ?_
      refine lv_iload_n hx hb dX4_wasAsked_91 rfl (lv_at hl 1 rfl) ?_
      refine lv_iload_n hx hb dX4_wasAsked_92 rfl (lv_at hl 3 rfl) ?_
      have hC0 := hC
      refine c_cv (c_runV (As := [.int (nI a9), .int (nI Z)]) (rest := []) (q0 := (2 * 16 + 13)) (ci := 0) ⟨hx, hb, hml, hown, htu⟩ (c_setA l G S_83 16 (lt35 (by decide)) hC (kH S 16) (hh.2 16 (lt35 (by decide))) (nI a9) (nI Z) H) (cwV 2 htu hU_X4_101 rfl rfl rfl (by decide +kernel) ⟨Nat.le_of_ble_eq_true rfl, Nat.le_of_ble_eq_true rfl⟩) hP hK hD hC hpp (c_hd (hh.2 16 (lt35 (by decide))) (cw_row (lt35 (by decide)))) rfl rfl hl.1 rfl (lv_room (Nat.le_of_ble_eq_true rfl)) dX4_wasAsked_93) hS hD hh hpp (fun S_102 H locs hw_103 hP hD hS hC hh hs_104 hpq => ?_)
      clear hpp
      have hpp := hpq
      clear hpq
      try dsimp only at hw_103
      have aw_105 : AW [16] [] S_83 S_102 := (by rw [hw_103]; exact AW.u (by decide))
      have aw_105t : AW [16, 17, 18] [] S S_102 := aw_86t.tr (aw_105.mono (by decide) (by decide))
      have kk_106 : kK S_102 6 = T := (aw_105.2.1 6 (lt35 (by decide)) (by decide)).2.trans kk_87
      have kk_107 : kK S_102 7 = T := (aw_105.2.1 7 (lt35 (by decide)) (by decide)).2.trans kk_88
      have kk_108 : kK S_102 8 = T := (aw_105.2.1 8 (lt35 (by decide)) (by decide)).2.trans kk_89
      have kk_109 : kK S_102 9 = T := (aw_105.2.1 9 (lt35 (by decide)) (by decide)).2.trans kk_90
      have kk_110 : kK S_102 14 = V := (aw_105.2.1 14 (lt35 (by decide)) (by decide)).2.trans kk_92
      have kk_111 : kK S_102 10 = X := (aw_105.2.1 10 (lt35 (by decide)) (by decide)).2.trans kk_93
      have kk_112 : kK S_102 11 = X := (aw_105.2.1 11 (lt35 (by decide)) (by decide)).2.trans kk_94
      have kk_113 : kK S_102 12 = Y := (aw_105.2.1 12 (lt35 (by decide)) (by decide)).2.trans kk_95
      have kk_114 : kK S_102 13 = Y := (aw_105.2.1 13 (lt35 (by decide)) (by decide)).2.trans kk_96
      have kk_115 : kK S_102 17 = Z + 1 := (aw_105.2.1 17 (lt35 (by decide)) (by decide)).2.trans kk_97
      have kk_116 : kK S_102 18 = Z + 1 := (aw_105.2.1 18 (lt35 (by decide)) (by decide)).2.trans kk_99
      have kk_117 : kK S_102 16 = T := by rw [hw_103]; exact uR_K.trans kk_91
      refine lv_iconst (v := 0) hx hb dX4_wasAsked_96 (by decide) ?_
      have q17 : kF S_102 17 = kF S_64 17 := ((aw_105.2.1 17 (lt35 (by decide)) (by decide)).1).trans ((aw_86.2.1 17 (lt35 (by decide)) (by decide)).1)
      have q18 : kF S_102 18 = kF S_83 18 := (aw_105.2.1 18 (lt35 (by decide)) (by decide)).1
      have q18k : kK S_64 18 = Z := ((aw_67.2.1 18 (lt35 (by decide)) (by decide)).2).trans k18
      have q18o : kF S_64 18 = kF S 18 := (aw_67.2.1 18 (lt35 (by decide)) (by decide)).1
      have q16 : kF S_83 16 = kF S 16 := ((aw_86.2.1 16 (lt35 (by decide)) (by decide)).1).trans ((aw_67.2.1 16 (lt35 (by decide)) (by decide)).1)
      have q16k : kK S_83 16 = T := (((aw_86.2.1 16 (lt35 (by decide)) (by decide)).2).trans ((aw_67.2.1 16 (lt35 (by decide)) (by decide)).2)).trans k16
      have q16s : kF S_102 16 = upd (kF S 16) a9 (nI Z) := by rw [hw_103, uR_F, q16k, rset_at (by rw [← hTz]; exact ha) (Nat.lt_of_le_of_lt tT (by decide)), q16]
      have qf : KQ S_102 (asked z a9 b9) := kq_asked (m := Z) hq ha hb9 hn6 (Nat.lt_trans hlt (by decide)) hZz ⟨kk_115, by rw [q17, ← k17]; exact fF_81b, fun p hp => by rw [q17]; exact fF_81a p (by rw [k17]; exact hp)⟩ ⟨kk_116, by rw [q18, ← q18k, fF_100b]; exact hla, fun p hp => by rw [q18, fF_100a p (by rw [q18k]; exact hp), q18o]⟩ ⟨kk_117.trans hTz.symm, by rw [q16s]; exact upd_s, fun t _ ht => by rw [q16s]; exact upd_n ht⟩
      exact c_zret (v := 0) hx hb hr hK hP hD hS hC hh hpp rfl ⟨aw_105t, (Or.inr ⟨rfl, hnot, hY.las aw_105t kk_117 kk_115 kk_116, qf⟩)⟩ dX4_wasAsked_97 hlocks
    · skip
      refine lv_aload_n hx hb dX4_wasAsked_38 rfl (lv_at hl 0 rfl) ?_
      refine va_get (D := gD G) (ci := 4) (v := .ref (kH S 17)) (C := RX4) (T := TX4) (N := 14) hx hb htu cu_in4 hown hK hP 2 cw_2 rfl 12 (by decide) (htu _ C_78) (fun _ h9 => h9) rfl dX4_wasAsked_39 ?_
      refine lv_iload hx hb dX4_wasAsked_42 (lv_at hl 5 rfl) ?_
      have hC0 := hC
      refine c_ci (c_runV (As := [.int pl]) (rest := []) (q0 := (2 * 17 + 13)) (ci := 0) ⟨hx, hb, hml, hown, htu⟩ (c_getA l G S 17 (lt35 (by decide)) hC (kH S 17) rfl pl H) (cwV 1 htu hU_X4_89 rfl rfl rfl (by decide +kernel) ⟨Nat.le_of_ble_eq_true rfl, Nat.le_of_ble_eq_true rfl⟩) hP hK hD hC hpp (c_hd rfl (cw_row (lt35 (by decide)))) rfl rfl hl.1 rfl (lv_room (Nat.le_of_ble_eq_true rfl)) dX4_wasAsked_44) hS hD hh hpp (fun r_118 S_119 H locs hw_120 hP hD hS hC hh hs_121 hpq => ?_)
      clear hpp
      have hpp := hpq
      clear hpq
      obtain ⟨hu9, hw_120⟩ := hw_120
      have hu9 := hu9.symm
      subst hu9
      obtain ⟨b8, bs9, p8, hbs, hpl, hp8, h17, hb8, hch⟩ := ch_c hp1 c_62
      obtain rfl : r_118 = nI b8 := hw_120.trans (by rw [hpl, rget_at hp8.1 (by rw [k17]; exact Nat.lt_trans hlt (by decide))]; exact h17)
      refine lv_iload_n hx hb dX4_wasAsked_47 rfl (lv_at hl 2 rfl) ?_
      refine lv_icmp_ne (tgt := 53) hx hb dX4_wasAsked_48 (by decide) (fun c_122 => ?_) (fun c_122 => ?_)
      · skip
        have nc_122 : ¬ b8 = b9 := fun h9 => c_122 ((nI_eq (a := b8) (b := b9) (by omega) (by omega)).mpr h9)
        refine lv_aload_n hx hb dX4_wasAsked_53 rfl (lv_at hl 0 rfl) ?_
        refine va_get (D := gD G) (ci := 4) (v := .ref (kH S 18)) (C := RX4) (T := TX4) (N := 14) hx hb htu cu_in4 hown hK hP 2 cw_2 rfl 13 (by decide) (htu _ C_79) (fun _ h9 => h9) rfl dX4_wasAsked_54 ?_
        refine lv_iload hx hb dX4_wasAsked_57 (lv_at hl 5 rfl) ?_
        have hC0 := hC
        refine c_ci (c_runV (As := [.int pl]) (rest := []) (q0 := (2 * 18 + 13)) (ci := 0) ⟨hx, hb, hml, hown, htu⟩ (c_getA l G S 18 (lt35 (by decide)) hC (kH S 18) rfl pl H) (cwV 1 htu hU_X4_89 rfl rfl rfl (by decide +kernel) ⟨Nat.le_of_ble_eq_true rfl, Nat.le_of_ble_eq_true rfl⟩) hP hK hD hC hpp (c_hd rfl (cw_row (lt35 (by decide)))) rfl rfl hl.1 rfl (lv_room (Nat.le_of_ble_eq_true rfl)) dX4_wasAsked_59) hS hD hh hpp (fun r_123 S_124 H locs hw_125 hP hD hS hC hh hs_126 hpq => ?_)
        clear hpp
        have hpp := hpq
        clear hpq
        obtain ⟨hu9, hw_125⟩ := hw_125
        have hu9 := hu9.symm
        subst hu9
        obtain rfl : r_123 = kF S 18 p8 := hw_125.trans (by rw [hpl]; exact rget_at (by rw [k18, ← k17]; exact hp8.1) (by rw [k18]; exact Nat.lt_trans hlt (by decide)))
        refine lv_istore (lv' := [(5, .int (kF S 18 p8)), (0, .ref (ga G 2)), (1, .int (nI a9)), (2, .int (nI b9)), (3, .int (nI Z)), (4, .int r_1), (6, .int (nI i))]) hx hb dX4_wasAsked_62 hl (by decide) rfl (fun ls hl => ?_)
        refine lv_iinc (v := nI (i + 1)) (lv' := [(6, .int (nI (i + 1))), (5, .int (kF S 18 p8)), (0, .ref (ga G 2)), (1, .int (nI a9)), (2, .int (nI b9)), (3, .int (nI Z)), (4, .int r_1)]) hx hb dX4_wasAsked_64 hl (k := 6) rfl (nI_1 i) (by decide) rfl (fun ls hl => ?_)
        refine lv_goto (tgt := 25) hx hb dX4_wasAsked_67 (by decide) ?_
        exact ih9 _ _ _ _ _ ⟨kF S 18 p8, bs9, i + 1, ls, by omega, hch, (by rw [hbs] at hp2; exact Nat.le_of_succ_le_succ hp2), (by rw [hp3, hbs, List.mem_cons]; exact ⟨fun h => h.elim (fun h => absurd h.symm nc_122) id, Or.inr⟩), rfl, rfl, hP, hD, hS, lv_sub hl [2, 3, 4, 5, 6, 1, 0] rfl, rfl⟩
      · skip
        have nc_122 : b8 = b9 := (nI_eq (a := b8) (b := b9) (by omega) (by omega)).mp c_122
        refine lv_iconst (v := 1) hx hb dX4_wasAsked_51 (by decide) ?_
        exact c_zret (v := 1) hx hb hr hK hP hD hS hC hh hpp rfl ⟨AW.rf, (Or.inl ⟨rfl, rfl, hp3.mpr (by rw [hbs, nc_122]; exact List.mem_cons_self)⟩)⟩ dX4_wasAsked_52 hlocks

