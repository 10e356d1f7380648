set_option maxHeartbeats 4000000 in
set_option maxRecDepth 100000 in
/-- addRecord -/
theorem x_addRecord (l : Launch) (G : cG) (S : cS) (T : Nat) (V : Nat) (VP : Nat) (X : Nat) (Y : Nat) (Z : Nat) (fr : Nat) (z : aS) (ls9 : List Nat) (ps9 : List Nat) (hC : CL S) (hY : TY S T V VP X Y Z) (hfr : Y = fr + ps9.length) (hY0 : Y ≤ 1000) (hz : KT S z) (h0 : sto z = 0) (hll : ls9.length = ps9.length) (hw6 : ps9.length ≤ 6) (hst : ∀ i, i < ps9.length → kF S 12 (fr + i) = nI (ls9.getD i 0) ∧ kF S 13 (fr + i) = nI (ps9.getD i 0) ∧ ps9.getD i 0 < nT z ∧ ls9.getD i 0 < 26) (Hs : Heap) : Met l yX4_addRecord (wC yX4_addRecord cX4_addRecord 6 (some .int)) (cRm S 4 128) (cPc G S Hs [.ref (ga G 2), .int (nI fr)]) (cQi G S Hs (fun v u => AW [6, 7, 8, 9, 16, 10, 11, 12, 13] [] S u ∧ ((v = -6 ∧ u = S ∧ nT z = 602) ∨ (v = nI T ∧ T < 602 ∧ TY u (T + 1) V VP (X + (Y - fr)) fr Z ∧ OC S u T ∧ (KT u (mkR z ls9 ps9).1 ∧ (mkR z ls9 ps9).2 = T ∧ sto (mkR z ls9 ps9).1 = 0) ∧ (kF u 16 T = -9 ∧ ∀ t, t < T → kF u 16 t = kF S 16 t) ∧ kF u 12 = kF S 12 ∧ kF u 13 = kF S 13)))) (CC - PT S) (12 * (CC - PT S)) (cA G S Hs.size) := by
  refine Met.ofW (cc := cX4_addRecord) (maxL := 6) (ret := (some .int)) (by decide) rfl ?_
  intro p e s m args below meth c s₁ B hml hv
  obtain ⟨rfl, hsz, hP, hK, hD0, -⟩ := hv
  have hx := B.exec
  have hb := B.bytes
  have hr := B.returns
  have htu : ∀ w ∈ CU, w.before _ s = true := fun w h => atoms_spec (ws := (wC yX4_addRecord cX4_addRecord 6 (some .int))) B.pre w (List.mem_cons_of_mem _ h)
  have hown : s.vm.findClass RX4 = some m.cls := findClass_of_methodNamed B.named
  have hlocks := B.notSynchronized
  subst hsz
  have hD : cD (cA G S s.heap.size) G S := cD_self hD0
  have hl := lv_entry ([.ref (ga G 2), .int (nI fr)]) (n := 6) (Nat.le_of_ble_eq_true rfl)
  rw [lg_entry_eq]
  generalize (lg_sl ([.ref (ga G 2), .int (nI fr)]) ++ List.replicate (6 - (lg_sl ([.ref (ga G 2), .int (nI fr)])).length) Slot.unset).toArray = ls at hl ⊢
  have hl : lv_has ls 6 [(0, .ref (ga G 2)), (1, .int (nI fr))] := hl
  obtain ⟨H, hHe⟩ : ∃ H : Heap, H = s.heap := ⟨_, rfl⟩
  rw [← hHe] at hP
  have hS : va_S (cA G S s.heap.size) s.heap H [] := by rw [hHe]; exact va_S.rf
  have hh : HS S S := HS.rf
  have hpp : PT S ≤ PT S := Nat.le_refl _
  have hB9 := hC.1
  refine W.heq hHe ?_
  refine c_ent (S := S) ?_
  obtain ⟨⟨k6, k7, k8, k9, k16, k14, k10, k11, k12, k13, k17, k18⟩, ⟨tT, tV, tB, tX⟩, tv, tr, ts⟩ := id hY
  have hTz : nT z = T := hz.1.1.symm.trans k6
  have hx37 : X ≤ 3612 := by omega
  have hlm : ∀ q, q ≤ ps9.length → lmax z (ps9.take q) ≤ 100 := fun q hq => lmax_tk hz (fun i hi => (hst i hi).2.2.1) hq
  have hX6 : X + (Y - fr) ≤ 6 * (T + 1) := by omega
  have eq9 : X + ps9.length = X + (Y - fr) := by omega
  have hX37 : X + ps9.length ≤ 3700 := by omega
  have hL6 : ps9.length < 2 ^ 31 := by omega
  refine lv_iconst (v := 0) hx hb dX4_addRecord_0 (by decide) ?_
  refine lv_istore_n (lv' := [(2, .int 0), (0, .ref (ga G 2)), (1, .int (nI fr))]) hx hb dX4_addRecord_1 rfl hl (by decide) rfl (fun ls hl => ?_)
  refine lv_aload_n hx hb dX4_addRecord_2 rfl (lv_at hl 1 rfl) ?_
  refine va_get (D := gD G) (ci := 4) (v := .ref (kH S 13)) (C := RX4) (T := TX4) (N := 14) hx hb htu cu_in4 hown hK hP 2 cw_2 rfl 7 (by decide) (htu _ C_73) (fun _ h9 => h9) rfl dX4_addRecord_3 ?_
  refine va_get (D := gD G) (ci := 0) (v := .int (nI Y)) (C := RX0) (T := TX0) (N := 2) hx hb htu cu_in0 hown hK hP (2 * 13 + 13) (c_hd rfl (cw_row (lt35 (by decide)))) rfl 1 (by decide) (htu _ C_94) (fun _ h9 => h9) (m_v (congrArg nI k13)) dX4_addRecord_6 ?_
  refine lv_istore_n (lv' := [(3, .int (nI Y)), (2, .int 0), (0, .ref (ga G 2)), (1, .int (nI fr))]) hx hb dX4_addRecord_9 rfl hl (by decide) rfl (fun ls hl => ?_)
  refine lv_iload_n hx hb dX4_addRecord_10 rfl (lv_at hl 3 rfl) ?_
  refine lv_istore (lv' := [(4, .int (nI fr)), (3, .int (nI Y)), (2, .int 0), (0, .ref (ga G 2)), (1, .int (nI fr))]) hx hb dX4_addRecord_11 hl (by decide) rfl (fun ls hl => ?_)
  refine w_loop (fun j H locs k sl g => ∃ (q : Nat) (ls : Array Slot), q + j = ps9.length ∧ k = PT S - PT S ∧ sl = 12 * (PT S - PT S) ∧ cP G S H ∧ cD (cA G S s.heap.size) G S ∧ va_S (cA G S s.heap.size) s.heap H locs ∧ lv_has ls 6 [(0, .ref (ga G 2)), (1, .int (nI fr)), (2, .int (nI (lmax z (ps9.take q)))), (3, .int (nI Y)), (4, .int (nI (fr + q)))] ∧ g = F0 m 13 ls []) ?_ ?_ ps9.length _ _ _ _ _ ⟨0, ls, by omega, rfl, rfl, hP, hD, hS, lv_sub hl [3, 4, 2, 1, 0] rfl, rfl⟩
  · intro H locs k sl g hI
    obtain ⟨q, ls, hp0, rfl, rfl, hP, hD, hS, hl, rfl⟩ := hI
    have hqe : ps9.take q = ps9 := List.take_of_length_le (by omega)
    rw [hqe] at hl
    refine lv_iload hx hb dX4_addRecord_13 (lv_at hl 4 rfl) ?_
    refine lv_iload_n hx hb dX4_addRecord_15 rfl (lv_at hl 3 rfl) ?_
    refine lv_icmp_ge (tgt := 43) hx hb dX4_addRecord_16 (by decide) (fun c_1 => ?_) (fun c_1 => absurd (nI_le (by omega) (by omega)) c_1)
    refine lv_aload_n hx hb dX4_addRecord_43 rfl (lv_at hl 0 rfl) ?_
    refine lv_iconst (v := 3) hx hb dX4_addRecord_44 (by decide) ?_
    refine lv_iload_n hx hb dX4_addRecord_45 rfl (lv_at hl 2 rfl) ?_
    refine lv_aload_n hx hb dX4_addRecord_46 rfl (lv_at hl 0 rfl) ?_
    refine va_get (D := gD G) (ci := 4) (v := .ref (kH S 11)) (C := RX4) (T := TX4) (N := 14) hx hb htu cu_in4 hown hK hP 2 cw_2 rfl 5 (by decide) (htu _ C_71) (fun _ h9 => h9) rfl dX4_addRecord_47 ?_
    refine va_get (D := gD G) (ci := 0) (v := .int (nI X)) (C := RX0) (T := TX0) (N := 2) hx hb htu cu_in0 hown hK hP (2 * 11 + 13) (c_hd rfl (cw_row (lt35 (by decide)))) rfl 1 (by decide) (htu _ C_94) (fun _ h9 => h9) (m_v (congrArg nI k11)) dX4_addRecord_50 ?_
    refine lv_iload_n hx hb dX4_addRecord_53 rfl (lv_at hl 3 rfl) ?_
    refine lv_iload_n hx hb dX4_addRecord_54 rfl (lv_at hl 1 rfl) ?_
    refine lv_isub hx hb dX4_addRecord_55 ?_
    refine m_top (y := nI ps9.length) (by rw [hfr]; exact (pk_sub (Nat.le_add_right fr _)).trans (congrArg nI (Nat.add_sub_cancel_left _ _))) ?_
    have hC0 := hC
    refine c_ci (c_runV (As := [.int 3, .int (nI (lmax z ps9)), .int (nI X), .int (nI ps9.length)]) (rest := []) (q0 := 2) (ci := 4) ⟨hx, hb, hml, hown, htu⟩ (x_addType l G S T V VP X Y Z VP 3 (nI (lmax z ps9)) (nI X) (nI ps9.length) hC hY ((Nat.le_refl _)) ((fun h => absurd h (by decide))) ((fun _ => (nI_leI (a := ps9.length) (b := 6) (by omega) (by omega)).mpr (by omega))) ((Or.inr (Or.inl rfl))) H) (cwV 4 htu hU_X4_65 rfl rfl rfl (by decide +kernel) ⟨Nat.le_of_ble_eq_true rfl, Nat.le_of_ble_eq_true rfl⟩) hP hK hD hC hpp cw_2 rfl rfl hl.1 rfl (lv_room (Nat.le_of_ble_eq_true rfl)) dX4_addRecord_56) hS hD hh hpp (fun r_2 S_3 H locs hw_4 hP hD hS hC hh hs_5 hpq => ?_)
    clear hpp
    have hpp := hpq
    clear hpq
    try dsimp only at hw_4
    have aw_6 : AW [6, 7, 8, 9, 16] [] S S_3 := hw_4.1
    have aw_6t : AW [6, 7, 8, 9, 16, 10, 11, 12, 13] [] S S_3 := AW.rf.tr (aw_6.mono (by decide) (by decide))
    have kk_7 : kK S_3 14 = V := (aw_6.2.1 14 (lt35 (by decide)) (by decide)).2.trans k14
    have kk_8 : kK S_3 10 = X := (aw_6.2.1 10 (lt35 (by decide)) (by decide)).2.trans k10
    have kk_9 : kK S_3 11 = X := (aw_6.2.1 11 (lt35 (by decide)) (by decide)).2.trans k11
    have kk_10 : kK S_3 12 = Y := (aw_6.2.1 12 (lt35 (by decide)) (by decide)).2.trans k12
    have kk_11 : kK S_3 13 = Y := (aw_6.2.1 13 (lt35 (by decide)) (by decide)).2.trans k13
    have kk_12 : kK S_3 17 = Z := (aw_6.2.1 17 (lt35 (by decide)) (by decide)).2.trans k17
    have kk_13 : kK S_3 18 = Z := (aw_6.2.1 18 (lt35 (by decide)) (by decide)).2.trans k18
    have hw_49 := hw_4.2
    clear hw_4
    rcases hw_49 with ⟨ty_14v, ty_14s, ty_14f⟩ | ⟨ty_14v, ty_14t, ty_14, ty_14o, ty_144, ty_148, ty_14a, ty_14l⟩
    · skip
      subst ty_14v
      refine lv_istore (lv' := [(4, .int ((-6))), (0, .ref (ga G 2)), (1, .int (nI fr)), (2, .int (nI (lmax z ps9))), (3, .int (nI Y))]) hx hb dX4_addRecord_59 hl (by decide) rfl (fun ls hl => ?_)
      refine lv_iload hx hb dX4_addRecord_61 (lv_at hl 0 rfl) ?_
      refine lv_if_ge (tgt := 69) hx hb dX4_addRecord_63 (by decide) (fun c_15 => absurd c_15 (by decide)) (fun c_15 => ?_)
      refine lv_iload hx hb dX4_addRecord_66 (lv_at hl 0 rfl) ?_
      exact c_iret (v := (-6)) hx hb hr hK hP hD hS hC hh hpp ⟨aw_6t, (Or.inl ⟨rfl, ty_14s, hTz.trans ty_14f⟩)⟩ dX4_addRecord_68 hlocks
    · skip
      subst ty_14v
      refine lv_istore (lv' := [(4, .int (nI T)), (0, .ref (ga G 2)), (1, .int (nI fr)), (2, .int (nI (lmax z ps9))), (3, .int (nI Y))]) hx hb dX4_addRecord_59 hl (by decide) rfl (fun ls hl => ?_)
      refine lv_iload hx hb dX4_addRecord_61 (lv_at hl 0 rfl) ?_
      refine lv_if_ge (tgt := 69) hx hb dX4_addRecord_63 (by decide) (fun c_16 => ?_) (fun c_16 => absurd (Int32.not_lt.mp (nI_n0 (by omega))) c_16)
      refine lv_iload_n hx hb dX4_addRecord_69 rfl (lv_at hl 2 rfl) ?_
      refine lv_istore (lv' := [(5, .int (nI fr)), (4, .int (nI T)), (0, .ref (ga G 2)), (1, .int (nI fr)), (2, .int (nI (lmax z ps9))), (3, .int (nI Y))]) hx hb dX4_addRecord_70 hl (by decide) rfl (fun ls hl => ?_)
      have x10 : kF S_3 10 = kF S 10 := (aw_6.2.1 10 (lt35 (by decide)) (by decide)).1
      have x11 : kF S_3 11 = kF S 11 := (aw_6.2.1 11 (lt35 (by decide)) (by decide)).1
      have x12 : kF S_3 12 = kF S 12 := (aw_6.2.1 12 (lt35 (by decide)) (by decide)).1
      have x13 : kF S_3 13 = kF S 13 := (aw_6.2.1 13 (lt35 (by decide)) (by decide)).1
      have hawm := aw_6
      refine w_loop (fun j H locs k sl g => ∃ (S1 : cS) (q : Nat) (ls : Array Slot), CL S1 ∧ HS S S1 ∧ PT S ≤ PT S1 ∧ AW [6, 7, 8, 9, 16, 10, 11, 12, 13] [] S S1 ∧ q + j = ps9.length ∧ AW [10, 11] [] S_3 S1 ∧ kK S1 10 = X + q ∧ kK S1 11 = X + q ∧ (∀ i, i < X → kF S1 10 i = kF S 10 i ∧ kF S1 11 i = kF S 11 i) ∧ (∀ i, i < q → kF S1 10 (X + i) = nI (ls9.getD i 0) ∧ kF S1 11 (X + i) = nI (ps9.getD i 0)) ∧ k = PT S1 - PT S ∧ sl = 12 * (PT S1 - PT S) ∧ cP G S1 H ∧ cD (cA G S s.heap.size) G S1 ∧ va_S (cA G S s.heap.size) s.heap H locs ∧ lv_has ls 6 [(0, .ref (ga G 2)), (1, .int (nI fr)), (3, .int (nI Y)), (4, .int (nI T)), (5, .int (nI (fr + q)))] ∧ g = F0 m 72 ls []) ?_ ?_ ps9.length _ _ _ _ _ ⟨S_3, 0, ls, hC, hh, hpp, aw_6t, by omega, AW.rf, ty_14.1.2.2.2.2.2.2.1, ty_14.1.2.2.2.2.2.2.2.1, (fun i _ => by rw [x10, x11]; exact ⟨rfl, rfl⟩), (fun i hi => absurd hi (Nat.not_lt_zero _)), rfl, rfl, hP, hD, hS, lv_sub hl [2, 3, 5, 1, 0] rfl, rfl⟩
      · intro H locs k sl g hI
        clear hpp
        obtain ⟨S1, q, ls, hC, hh, hpp, hAW, hp0, hp1, hp2, hp3, hp4, hp5, rfl, rfl, hP, hD, hS, hl, rfl⟩ := hI
        have t602 := ty_14t
        have y12 : kK S1 12 = Y := ((hp1.2.1 12 (lt35 (by decide)) (by decide)).2.trans ty_14.1.2.2.2.2.2.2.2.2.1)
        have y13 : kK S1 13 = Y := ((hp1.2.1 13 (lt35 (by decide)) (by decide)).2.trans ty_14.1.2.2.2.2.2.2.2.2.2.1)
        have z12 : kF S1 12 = kF S 12 := (hp1.2.1 12 (lt35 (by decide)) (by decide)).1.trans x12
        have z13 : kF S1 13 = kF S 13 := (hp1.2.1 13 (lt35 (by decide)) (by decide)).1.trans x13
        refine lv_iload hx hb dX4_addRecord_72 (lv_at hl 4 rfl) ?_
        refine lv_iload_n hx hb dX4_addRecord_74 rfl (lv_at hl 2 rfl) ?_
        refine lv_icmp_ge (tgt := 116) hx hb dX4_addRecord_75 (by decide) (fun c_17 => ?_) (fun c_17 => absurd (nI_le (by omega) (by omega)) c_17)
        refine lv_aload_n hx hb dX4_addRecord_116 rfl (lv_at hl 0 rfl) ?_
        refine va_get (D := gD G) (ci := 4) (v := .ref (kH S 12)) (C := RX4) (T := TX4) (N := 14) hx hb htu cu_in4 hown hK hP 2 cw_2 rfl 6 (by decide) (htu _ C_72) (fun _ h9 => h9) (c_hv (hh.2 12 (lt35 (by decide)))) dX4_addRecord_117 ?_
        refine lv_iload_n hx hb dX4_addRecord_120 rfl (lv_at hl 1 rfl) ?_
        have hC0 := hC
        refine c_cv (c_runV (As := [.int (nI fr)]) (rest := []) (q0 := (2 * 12 + 13)) (ci := 0) ⟨hx, hb, hml, hown, htu⟩ (c_cutA l G S1 12 (lt35 (by decide)) hC (kH S 12) (hh.2 12 (lt35 (by decide))) (nI fr) H) (cwV 1 htu hU_X4_61 rfl rfl rfl (by decide +kernel) ⟨Nat.le_of_ble_eq_true rfl, Nat.le_of_ble_eq_true rfl⟩) hP hK hD hC hpp (c_hd (hh.2 12 (lt35 (by decide))) (cw_row (lt35 (by decide)))) rfl rfl hl.1 rfl (lv_room (Nat.le_of_ble_eq_true rfl)) dX4_addRecord_121) hS hD hh hpp (fun S_19 H locs hw_20 hP hD hS hC hh hs_21 hpq => ?_)
        clear hpp
        have hpp := hpq
        clear hpq
        try dsimp only at hw_20
        have aw_22 : AW [12] [] S1 S_19 := (by rw [hw_20]; exact AW.u (by decide))
        have aw_22t : AW [6, 7, 8, 9, 16, 10, 11, 12, 13] [] S S_19 := hAW.tr (aw_22.mono (by decide) (by decide))
        have kk_23 : kK S_19 10 = X + q := (aw_22.2.1 10 (lt35 (by decide)) (by decide)).2.trans hp2
        have kk_24 : kK S_19 11 = X + q := (aw_22.2.1 11 (lt35 (by decide)) (by decide)).2.trans hp3
        have kk_25 : kK S_19 13 = Y := (aw_22.2.1 13 (lt35 (by decide)) (by decide)).2.trans y13
        have kk_26 : kK S_19 12 = fr := by rw [hw_20]; exact uR_K.trans (rcut_le2 (by rw [y12]; omega) (by rw [y12]; omega))
        refine lv_aload_n hx hb dX4_addRecord_124 rfl (lv_at hl 0 rfl) ?_
        refine va_get (D := gD G) (ci := 4) (v := .ref (kH S 13)) (C := RX4) (T := TX4) (N := 14) hx hb htu cu_in4 hown hK hP 2 cw_2 rfl 7 (by decide) (htu _ C_73) (fun _ h9 => h9) (c_hv (hh.2 13 (lt35 (by decide)))) dX4_addRecord_125 ?_
        refine lv_iload_n hx hb dX4_addRecord_128 rfl (lv_at hl 1 rfl) ?_
        have hC0 := hC
        refine c_cv (c_runV (As := [.int (nI fr)]) (rest := []) (q0 := (2 * 13 + 13)) (ci := 0) ⟨hx, hb, hml, hown, htu⟩ (c_cutA l G S_19 13 (lt35 (by decide)) hC (kH S 13) (hh.2 13 (lt35 (by decide))) (nI fr) H) (cwV 1 htu hU_X4_61 rfl rfl rfl (by decide +kernel) ⟨Nat.le_of_ble_eq_true rfl, Nat.le_of_ble_eq_true rfl⟩) hP hK hD hC hpp (c_hd (hh.2 13 (lt35 (by decide))) (cw_row (lt35 (by decide)))) rfl rfl hl.1 rfl (lv_room (Nat.le_of_ble_eq_true rfl)) dX4_addRecord_129) hS hD hh hpp (fun S_28 H locs hw_29 hP hD hS hC hh hs_30 hpq => ?_)
        clear hpp
        have hpp := hpq
        clear hpq
        try dsimp only at hw_29
        have aw_31 : AW [13] [] S_19 S_28 := (by rw [hw_29]; exact AW.u (by decide))
        have aw_31t : AW [6, 7, 8, 9, 16, 10, 11, 12, 13] [] S S_28 := aw_22t.tr (aw_31.mono (by decide) (by decide))
        have kk_32 : kK S_28 10 = X + q := (aw_31.2.1 10 (lt35 (by decide)) (by decide)).2.trans kk_23
        have kk_33 : kK S_28 11 = X + q := (aw_31.2.1 11 (lt35 (by decide)) (by decide)).2.trans kk_24
        have kk_34 : kK S_28 12 = fr := (aw_31.2.1 12 (lt35 (by decide)) (by decide)).2.trans kk_26
        have kk_35 : kK S_28 13 = fr := by rw [hw_29]; exact uR_K.trans (rcut_le2 (by rw [kk_25]; omega) (by rw [kk_25]; omega))
        refine lv_iload hx hb dX4_addRecord_132 (lv_at hl 3 rfl) ?_
        obtain rfl : q = ps9.length := hp0
        have aw9 : AW [10, 11, 12, 13] [] S_3 S_28 := (((hp1.mono (rs' := [10, 11, 12, 13]) (by decide) (by decide)).tr (aw_22.mono (by decide) (by decide))).tr (aw_31.mono (by decide) (by decide)))
        have x17 : kK S_28 17 = Z := ((aw9).2.1 17 (lt35 (by decide)) (by decide)).2.trans ty_14.1.2.2.2.2.2.2.2.2.2.2.1
        have x18 : kK S_28 18 = Z := ((aw9).2.1 18 (lt35 (by decide)) (by decide)).2.trans ty_14.1.2.2.2.2.2.2.2.2.2.2.2
        have fin : TY S_28 (T + 1) V VP (X + (Y - fr)) fr Z := ty_14.put aw9 (by decide) (kk_32.trans eq9) (kk_33.trans eq9) kk_34 kk_35 x17 x18 hX6
        have f12 : kF S_28 12 = kF S1 12 := by rw [hw_29, uR_Fo (by decide), hw_20, uR_F]
        have f13 : kF S_28 13 = kF S1 13 := by rw [hw_29, uR_F, hw_20, uR_Fo (by decide)]
        have f10 : kF S_28 10 = kF S1 10 := by rw [hw_29, uR_Fo (by decide), hw_20, uR_Fo (by decide)]
        have f11 : kF S_28 11 = kF S1 11 := by rw [hw_29, uR_Fo (by decide), hw_20, uR_Fo (by decide)]
        have ok9 : kK S_28 10 = X + ps9.length ∧ kK S_28 11 = X + ps9.length := ⟨kk_32, kk_33⟩
        have r9 : ∀ r, r < 35 → r ∉ [10, 11, 12, 13] → kF S_28 r = kF S_3 r ∧ kK S_28 r = kK S_3 r := fun r h1 h2 => aw9.2.1 r (lt35 h1) (by rw [Nat.min_eq_left (Nat.le_of_lt h1)]; exact h2)
        have ad9 := AD.to ty_14a (r9 6 (by decide) (by decide)) (r9 7 (by decide) (by decide)) (r9 8 (by decide) (by decide)) (r9 9 (by decide) (by decide))
        have awS : AW [6, 7, 8, 9, 16, 10, 11, 12, 13] [] S S_28 := aw_31t
        have kt9 := kt_mkR (b := X) hz h0 (by rw [hTz]; exact t602) (by rw [hTz]; exact ad9) (awS.2.1 14 (lt35 (by decide)) (by decide)) (awS.ob (by decide) hz.1.2.2.2.2.2.2.2.2.2.2) awS.2.2.2.1 k10.symm ⟨ok9.1, ok9.2, hX37, fun i hi => by rw [f10, f11]; exact hp4 i hi⟩ hll hw6 (fun i hi => by rw [f10, f11]; exact ⟨(hp5 i hi).1, (hp5 i hi).2, (hst i hi).2.2⟩)
        exact c_iret (v := nI T) hx hb hr hK hP hD hS hC hh hpp ⟨aw_31t, (Or.inr ⟨rfl, t602, fin, ty_14o.tr (T' := T) (OC.aw aw9 (by decide)) (Nat.le_refl _), ⟨kt9.1, kt9.2.1.trans hTz, kt9.2.2⟩, ⟨by rw [(r9 16 (by decide) (by decide)).1]; exact ty_14l.1, fun t ht => by rw [(r9 16 (by decide) (by decide)).1]; exact ty_14l.2 t ht⟩, f12.trans z12, f13.trans z13⟩)⟩ dX4_addRecord_134 hlocks
      · intro j ih9 H locs k sl g hI
        clear hpp
        obtain ⟨S1, q, ls, hC, hh, hpp, hAW, hp0, hp1, hp2, hp3, hp4, hp5, rfl, rfl, hP, hD, hS, hl, rfl⟩ := hI
        have t602 := ty_14t
        have y12 : kK S1 12 = Y := ((hp1.2.1 12 (lt35 (by decide)) (by decide)).2.trans ty_14.1.2.2.2.2.2.2.2.2.1)
        have y13 : kK S1 13 = Y := ((hp1.2.1 13 (lt35 (by decide)) (by decide)).2.trans ty_14.1.2.2.2.2.2.2.2.2.2.1)
        have z12 : kF S1 12 = kF S 12 := (hp1.2.1 12 (lt35 (by decide)) (by decide)).1.trans x12
        have z13 : kF S1 13 = kF S 13 := (hp1.2.1 13 (lt35 (by decide)) (by decide)).1.trans x13
        refine lv_iload hx hb dX4_addRecord_72 (lv_at hl 4 rfl) ?_
        refine lv_iload_n hx hb dX4_addRecord_74 rfl (lv_at hl 2 rfl) ?_
        refine lv_icmp_ge (tgt := 116) hx hb dX4_addRecord_75 (by decide) (fun c_36 => absurd c_36 (nI_ge (by omega) (by omega))) (fun c_36 => ?_)
        refine lv_aload_n hx hb dX4_addRecord_78 rfl (lv_at hl 0 rfl) ?_
        refine va_get (D := gD G) (ci := 4) (v := .ref (kH S 10)) (C := RX4) (T := TX4) (N := 14) hx hb htu cu_in4 hown hK hP 2 cw_2 rfl 4 (by decide) (htu _ C_70) (fun _ h9 => h9) (c_hv (hh.2 10 (lt35 (by decide)))) dX4_addRecord_79 ?_
        refine lv_aload_n hx hb dX4_addRecord_82 rfl (lv_at hl 0 rfl) ?_
        refine va_get (D := gD G) (ci := 4) (v := .ref (kH S 12)) (C := RX4) (T := TX4) (N := 14) hx hb htu cu_in4 hown hK hP 2 cw_2 rfl 6 (by decide) (htu _ C_72) (fun _ h9 => h9) (c_hv (hh.2 12 (lt35 (by decide)))) dX4_addRecord_83 ?_
        refine lv_iload hx hb dX4_addRecord_86 (lv_at hl 4 rfl) ?_
        have hC0 := hC
        refine c_ci (c_runV (As := [.int (nI (fr + q))]) (rest := [.ref (kH S 10)]) (q0 := (2 * 12 + 13)) (ci := 0) ⟨hx, hb, hml, hown, htu⟩ (c_getA l G S1 12 (lt35 (by decide)) hC (kH S 12) (hh.2 12 (lt35 (by decide))) (nI (fr + q)) H) (cwV 1 htu hU_X4_89 rfl rfl rfl (by decide +kernel) ⟨Nat.le_of_ble_eq_true rfl, Nat.le_of_ble_eq_true rfl⟩) hP hK hD hC hpp (c_hd (hh.2 12 (lt35 (by decide))) (cw_row (lt35 (by decide)))) rfl rfl hl.1 rfl (lv_room (Nat.le_of_ble_eq_true rfl)) dX4_addRecord_88) hS hD hh hpp (fun r_37 S_38 H locs hw_39 hP hD hS hC hh hs_40 hpq => ?_)
        clear hpp
        have hpp := hpq
        clear hpq
        obtain ⟨hu9, hw_39⟩ := hw_39
        have hu9 := hu9.symm
        subst hu9
        have hq : q < ps9.length := Nat.lt_of_lt_of_eq (Nat.lt_add_of_pos_right (Nat.succ_pos j)) hp0
        obtain rfl : r_37 = nI (ls9.getD q 0) := hw_39.trans (rget_k (by rw [y12, hfr]; exact Nat.add_lt_add_left hq fr) (by rw [y12]; exact Nat.lt_of_le_of_lt hY0 (by decide)) (by rw [z12]; exact (hst q hq).1))
        have hC0 := hC
        refine c_cv (c_runV (As := [.int (nI (ls9.getD q 0))]) (rest := []) (q0 := (2 * 10 + 13)) (ci := 0) ⟨hx, hb, hml, hown, htu⟩ (c_addA l G S1 10 (lt35 (by decide)) hC (kH S 10) (hh.2 10 (lt35 (by decide))) (nI (ls9.getD q 0)) (show kK S1 10 < lim 10 by rw [hp2, lim_10]; omega) H) (cwV 1 htu hU_X4_73 rfl rfl rfl (by decide +kernel) ⟨Nat.le_of_ble_eq_true rfl, Nat.le_of_ble_eq_true rfl⟩) hP hK hD hC hpp (c_hd (hh.2 10 (lt35 (by decide))) (cw_row (lt35 (by decide)))) rfl rfl hl.1 rfl (lv_room (Nat.le_of_ble_eq_true rfl)) dX4_addRecord_91) hS hD hh hpp (fun S_42 H locs hw_43 hP hD hS hC hh hs_44 hpq => ?_)
        clear hpp
        have hpp := hpq
        clear hpq
        try dsimp only at hw_43
        have aw_45 : AW [10] [] S1 S_42 := (by obtain ⟨_, _, _, h9, -, -⟩ := hw_43; rw [h9]; exact AW.u (by decide))
        have aw_45t : AW [6, 7, 8, 9, 16, 10, 11, 12, 13] [] S S_42 := hAW.tr (aw_45.mono (by decide) (by decide))
        have kk_46 : kK S_42 11 = X + q := (aw_45.2.1 11 (lt35 (by decide)) (by decide)).2.trans hp3
        obtain ⟨ad_47n, ad_47q, ad_47g, ad_47u, ad_471, ad_472⟩ := hw_43
        have kk_48 : kK S_42 10 = X + q + 1 := by rw [ad_47u]; exact uR_K.trans (congrArg (· + 1) hp2)
        obtain ⟨fF_49a, fF_49b⟩ := ad_F ad_47u ad_471 ad_472
        refine lv_aload_n hx hb dX4_addRecord_94 rfl (lv_at hl 0 rfl) ?_
        refine va_get (D := gD G) (ci := 4) (v := .ref (kH S 11)) (C := RX4) (T := TX4) (N := 14) hx hb htu cu_in4 hown hK hP 2 cw_2 rfl 5 (by decide) (htu _ C_71) (fun _ h9 => h9) (c_hv (hh.2 11 (lt35 (by decide)))) dX4_addRecord_95 ?_
        refine lv_aload_n hx hb dX4_addRecord_98 rfl (lv_at hl 0 rfl) ?_
        refine va_get (D := gD G) (ci := 4) (v := .ref (kH S 13)) (C := RX4) (T := TX4) (N := 14) hx hb htu cu_in4 hown hK hP 2 cw_2 rfl 7 (by decide) (htu _ C_73) (fun _ h9 => h9) (c_hv (hh.2 13 (lt35 (by decide)))) dX4_addRecord_99 ?_
        refine lv_iload hx hb dX4_addRecord_102 (lv_at hl 4 rfl) ?_
        have hC0 := hC
        refine c_ci (c_runV (As := [.int (nI (fr + q))]) (rest := [.ref (kH S 11)]) (q0 := (2 * 13 + 13)) (ci := 0) ⟨hx, hb, hml, hown, htu⟩ (c_getA l G S_42 13 (lt35 (by decide)) hC (kH S 13) (hh.2 13 (lt35 (by decide))) (nI (fr + q)) H) (cwV 1 htu hU_X4_89 rfl rfl rfl (by decide +kernel) ⟨Nat.le_of_ble_eq_true rfl, Nat.le_of_ble_eq_true rfl⟩) hP hK hD hC hpp (c_hd (hh.2 13 (lt35 (by decide))) (cw_row (lt35 (by decide)))) rfl rfl hl.1 rfl (lv_room (Nat.le_of_ble_eq_true rfl)) dX4_addRecord_104) hS hD hh hpp (fun r_50 S_51 H locs hw_52 hP hD hS hC hh hs_53 hpq => ?_)
        clear hpp
        have hpp := hpq
        clear hpq
        obtain ⟨hu9, hw_52⟩ := hw_52
        have hu9 := hu9.symm
        subst hu9
        obtain rfl : r_50 = nI (ps9.getD q 0) := hw_52.trans (rget_k (by rw [(aw_45.2.1 13 (lt35 (by decide)) (by decide)).2, y13, hfr]; exact Nat.add_lt_add_left hq fr) (by rw [(aw_45.2.1 13 (lt35 (by decide)) (by decide)).2, y13]; exact Nat.lt_of_le_of_lt hY0 (by decide)) (by rw [(aw_45.2.1 13 (lt35 (by decide)) (by decide)).1, z13]; exact (hst q hq).2.1))
        have hC0 := hC
        refine c_cv (c_runV (As := [.int (nI (ps9.getD q 0))]) (rest := []) (q0 := (2 * 11 + 13)) (ci := 0) ⟨hx, hb, hml, hown, htu⟩ (c_addA l G S_42 11 (lt35 (by decide)) hC (kH S 11) (hh.2 11 (lt35 (by decide))) (nI (ps9.getD q 0)) (show kK S_42 11 < lim 11 by rw [kk_46, lim_11]; omega) H) (cwV 1 htu hU_X4_73 rfl rfl rfl (by decide +kernel) ⟨Nat.le_of_ble_eq_true rfl, Nat.le_of_ble_eq_true rfl⟩) hP hK hD hC hpp (c_hd (hh.2 11 (lt35 (by decide))) (cw_row (lt35 (by decide)))) rfl rfl hl.1 rfl (lv_room (Nat.le_of_ble_eq_true rfl)) dX4_addRecord_107) hS hD hh hpp (fun S_55 H locs hw_56 hP hD hS hC hh hs_57 hpq => ?_)
        clear hpp
        have hpp := hpq
        clear hpq
        try dsimp only at hw_56
        have aw_58 : AW [11] [] S_42 S_55 := (by obtain ⟨_, _, _, h9, -, -⟩ := hw_56; rw [h9]; exact AW.u (by decide))
        have aw_58t : AW [6, 7, 8, 9, 16, 10, 11, 12, 13] [] S S_55 := aw_45t.tr (aw_58.mono (by decide) (by decide))
        have kk_59 : kK S_55 10 = X + q + 1 := (aw_58.2.1 10 (lt35 (by decide)) (by decide)).2.trans kk_48
        obtain ⟨ad_60n, ad_60q, ad_60g, ad_60u, ad_601, ad_602⟩ := hw_56
        have kk_61 : kK S_55 11 = X + q + 1 := by rw [ad_60u]; exact uR_K.trans (congrArg (· + 1) kk_46)
        obtain ⟨fF_62a, fF_62b⟩ := ad_F ad_60u ad_601 ad_602
        refine lv_iinc (v := nI (fr + q + 1)) (lv' := [(5, .int (nI (fr + q + 1))), (0, .ref (ga G 2)), (1, .int (nI fr)), (3, .int (nI Y)), (4, .int (nI T))]) hx hb dX4_addRecord_110 hl (k := 4) rfl (nI_1 (fr + q)) (by decide) rfl (fun ls hl => ?_)
        refine lv_goto (tgt := 72) hx hb dX4_addRecord_113 (by decide) ?_
        have g10a : ∀ i, i < X + q → kF S_55 10 i = kF S1 10 i := fun i hi => by rw [(aw_58.2.1 10 (lt35 (by decide)) (by decide)).1]; exact fF_49a i (by rw [hp2]; exact hi)
        have g10b : kF S_55 10 (X + q) = nI (ls9.getD q 0) := by rw [(aw_58.2.1 10 (lt35 (by decide)) (by decide)).1, ← hp2]; exact fF_49b
        have k11c : kK S_42 11 = X + q := ((aw_45.2.1 11 (lt35 (by decide)) (by decide)).2).trans hp3
        have g11a : ∀ i, i < X + q → kF S_55 11 i = kF S1 11 i := fun i hi => (fF_62a i (by rw [k11c]; exact hi)).trans (by rw [(aw_45.2.1 11 (lt35 (by decide)) (by decide)).1])
        have g11b : kF S_55 11 (X + q) = nI (ps9.getD q 0) := by rw [← k11c]; exact fF_62b
        have h5n : ∀ i, i < q + 1 → kF S_55 10 (X + i) = nI (ls9.getD i 0) ∧ kF S_55 11 (X + i) = nI (ps9.getD i 0) := fun i hi => by
          rcases Nat.lt_or_ge i q with h1 | h1
          · have h2 := Nat.add_lt_add_left h1 X
            rw [g10a (X + i) h2, g11a (X + i) h2]
            exact hp5 i h1
          · obtain rfl : i = q := Nat.le_antisymm (Nat.le_of_lt_succ hi) h1
            exact ⟨g10b, g11b⟩
        exact ih9 _ _ _ _ _ ⟨S_55, q + 1, ls, hC, hh, hpp, aw_58t, by omega, ((hp1.tr (aw_45.mono (by decide) (by decide))).tr (aw_58.mono (by decide) (by decide))), kk_59, kk_61, (fun i hi => by have hi2 := Nat.lt_of_lt_of_le hi (Nat.le_add_right X q); rw [g10a i hi2, g11a i hi2]; exact hp4 i hi), h5n, rfl, rfl, hP, hD, hS, lv_sub hl [1, 2, 3, 4, 0] rfl, rfl⟩
  · intro j ih9 H locs k sl g hI
    obtain ⟨q, ls, hp0, rfl, rfl, hP, hD, hS, hl, rfl⟩ := hI
    refine lv_iload hx hb dX4_addRecord_13 (lv_at hl 4 rfl) ?_
    refine lv_iload_n hx hb dX4_addRecord_15 rfl (lv_at hl 3 rfl) ?_
    refine lv_icmp_ge (tgt := 43) hx hb dX4_addRecord_16 (by decide) (fun c_63 => absurd c_63 (nI_ge (by omega) (by omega))) (fun c_63 => ?_)
    refine lv_iload_n hx hb dX4_addRecord_19 rfl (lv_at hl 2 rfl) ?_
    refine lv_aload_n hx hb dX4_addRecord_20 rfl (lv_at hl 0 rfl) ?_
    refine lv_aload_n hx hb dX4_addRecord_21 rfl (lv_at hl 0 rfl) ?_
    refine va_get (D := gD G) (ci := 4) (v := .ref (kH S 13)) (C := RX4) (T := TX4) (N := 14) hx hb htu cu_in4 hown hK hP 2 cw_2 rfl 7 (by decide) (htu _ C_73) (fun _ h9 => h9) rfl dX4_addRecord_22 ?_
    refine lv_iload hx hb dX4_addRecord_25 (lv_at hl 4 rfl) ?_
    have hC0 := hC
    refine c_ci (c_runV (As := [.int (nI (fr + q))]) (rest := [.ref (ga G 2), .int (nI (lmax z (ps9.take q)))]) (q0 := (2 * 13 + 13)) (ci := 0) ⟨hx, hb, hml, hown, htu⟩ (c_getA l G S 13 (lt35 (by decide)) hC (kH S 13) rfl (nI (fr + q)) H) (cwV 1 htu hU_X4_89 rfl rfl rfl (by decide +kernel) ⟨Nat.le_of_ble_eq_true rfl, Nat.le_of_ble_eq_true rfl⟩) hP hK hD hC hpp (c_hd rfl (cw_row (lt35 (by decide)))) rfl rfl hl.1 rfl (lv_room (Nat.le_of_ble_eq_true rfl)) dX4_addRecord_27) hS hD hh hpp (fun r_64 S_65 H locs hw_66 hP hD hS hC hh hs_67 hpq => ?_)
    clear hpp
    have hpp := hpq
    clear hpq
    obtain ⟨hu9, hw_66⟩ := hw_66
    have hu9 := hu9.symm
    subst hu9
    have hq : q < ps9.length := Nat.lt_of_lt_of_eq (Nat.lt_add_of_pos_right (Nat.succ_pos j)) hp0
    obtain rfl : r_64 = nI (ps9.getD q 0) := hw_66.trans (rget_k (by rw [k13, hfr]; exact Nat.add_lt_add_left hq fr) (by rw [k13]; exact Nat.lt_of_le_of_lt hY0 (by decide)) (hst q hq).2.1)
    have hC0 := hC
    refine c_ci (c_runV (As := [.int (nI (ps9.getD q 0))]) (rest := [.int (nI (lmax z (ps9.take q)))]) (q0 := 2) (ci := 4) ⟨hx, hb, hml, hown, htu⟩ (y_levelOf l G S (nI (ps9.getD q 0)) hC  H) (cwV 1 htu hU_X4_79 rfl rfl rfl (by decide +kernel) ⟨Nat.le_of_ble_eq_true rfl, Nat.le_of_ble_eq_true rfl⟩) hP hK hD hC hpp cw_2 rfl rfl hl.1 rfl (lv_room (Nat.le_of_ble_eq_true rfl)) dX4_addRecord_30) hS hD hh hpp (fun r_68 S_69 H locs hw_70 hP hD hS hC hh hs_71 hpq => ?_)
    clear hpp
    have hpp := hpq
    clear hpq
    obtain ⟨-, hu9, hw_70⟩ := hw_70
    have hu9 := hu9.symm
    subst hu9
    obtain rfl : r_68 = nI (lev z (ps9.getD q 0)) := hw_70.trans (hz.rl (hst q hq).2.2.1)
    refine va_mmax hx hb (by rw [hml]; exact hl.1.symm) hown (htu _ C_338) (htu _ C_139) (htu _ C_111) (htu _ C_140) (Nat.le_of_ble_eq_true rfl) (Nat.le_of_ble_eq_true rfl) (c_b1 hpp hC) (c_b2 hpp hC) dX4_addRecord_33 ?_
    refine lv_topi (fun f_72 ef_72 => ?_)
    obtain rfl : f_72 = nI (lmax z (ps9.take (q + 1))) := ef_72.trans ((imax (by have := hlm q (by omega); omega) (by have := hz.lv (hst q hq).2.2.1; omega)).trans (congrArg nI (by rw [tkS hq, lmax_app])))
    refine lv_istore_n (lv' := [(2, .int (nI (lmax z (ps9.take (q + 1))))), (0, .ref (ga G 2)), (1, .int (nI fr)), (3, .int (nI Y)), (4, .int (nI (fr + q)))]) hx hb dX4_addRecord_36 rfl hl (by decide) rfl (fun ls hl => ?_)
    refine lv_iinc (v := nI (fr + q + 1)) (lv' := [(4, .int (nI (fr + q + 1))), (2, .int (nI (lmax z (ps9.take (q + 1))))), (0, .ref (ga G 2)), (1, .int (nI fr)), (3, .int (nI Y))]) hx hb dX4_addRecord_37 hl (k := 4) rfl (nI_1 (fr + q)) (by decide) rfl (fun ls hl => ?_)
    refine lv_goto (tgt := 13) hx hb dX4_addRecord_40 (by decide) ?_
    exact ih9 _ _ _ _ _ ⟨q + 1, ls, by omega, rfl, rfl, hP, hD, hS, lv_sub hl [2, 3, 1, 4, 0] rfl, rfl⟩

