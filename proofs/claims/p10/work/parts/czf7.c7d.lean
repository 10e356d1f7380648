set_option maxHeartbeats 4000000 in
set_option maxRecDepth 100000 in
/-- goOn -/
theorem xl_goOn_7 (l : Launch) (G : cG) (S : cS) (T : Nat) (V : Nat) (VP : Nat) (X : Nat) (Y : Nat) (Z : Nat) (z : aS) (st9 : List (Nat × Nat × Nat)) (L9 : List Int32) (t9 : Nat) (y9 : Nat) (p9 : Nat) (hC : CL S) (hY : TY S T V VP X Y Z) (hVP : VP ≤ V) (hTS : kT S = ga G 7) (hz : KT S z) (hTK : TKx z S 401 ((t9, y9, p9) :: st9) L9) (hsp : L9.length < 400) (hpb : p9 ≤ bd9 z (t9, y9, p9)) (hSP : SP z st9) (Hs : Heap) : Met l yX2_goOn (wC yX2_goOn cX2_goOn 6 none) (cRm S 4 126) (cPc G S Hs [.ref (ga G 3)]) (cQv G S Hs (fun u => AW [19, 20, 21, 22] [201] S u ∧ (∃ st2 L2, TKx z u 401 st2 L2 ∧ rsm z st2 L2 = rsm z ((t9, y9, p9) :: st9) L9 ∧ SP z st2 ∧ 2 * (400 - L2.length) + st2.length < 2 * (400 - L9.length) + (st9.length + 1)))) (CC - PT S) (12 * (CC - PT S)) (cA G S Hs.size) := by
  refine Met.ofW (cc := cX2_goOn) (maxL := 6) (ret := none) (by decide) rfl ?_
  intro p e s m args below meth c s₁ B hml hv
  obtain ⟨rfl, hsz, hP, hK, hD0, -⟩ := hv
  have hx := B.exec
  have hb := B.bytes
  have hr := B.returns
  have htu : ∀ w ∈ CU, w.before _ s = true := fun w h => atoms_spec (ws := (wC yX2_goOn cX2_goOn 6 none)) B.pre w (List.mem_cons_of_mem _ h)
  have hown : s.vm.findClass RX2 = some m.cls := findClass_of_methodNamed B.named
  have hlocks := B.notSynchronized
  subst hsz
  have hD : cD (cA G S s.heap.size) G S := cD_self hD0
  have hl := lv_entry ([.ref (ga G 3)]) (n := 6) (Nat.le_of_ble_eq_true rfl)
  rw [lg_entry_eq]
  generalize (lg_sl ([.ref (ga G 3)]) ++ List.replicate (6 - (lg_sl ([.ref (ga G 3)])).length) Slot.unset).toArray = ls at hl ⊢
  have hl : lv_has ls 6 [(0, .ref (ga G 3))] := hl
  obtain ⟨H, hHe⟩ : ∃ H : Heap, H = s.heap := ⟨_, rfl⟩
  rw [← hHe] at hP
  have hS : va_S (cA G S s.heap.size) s.heap H [] := by rw [hHe]; exact va_S.rf
  have hh : HS S S := HS.rf
  have hpp : PT S ≤ PT S := Nat.le_refl _
  have hB9 := hC.1
  refine W.heq hHe ?_
  refine c_ent (S := S) ?_
  obtain ⟨⟨h19, h20, h21⟩, hsg, hcap, hos, hst, hsv, hso⟩ := id hTK
  obtain ⟨tT9, tV9, tB9, tX9⟩ := hY.2.1
  have hn6 := hz.1.2.2.2.2.2.2.2.1
  have hv6 := hz.1.2.2.2.2.2.2.2.2.1
  have h19 : kK S 19 = st9.length + 1 := h19
  have h20 : kK S 20 = st9.length + 1 := h20
  have h21 : kK S 21 = st9.length + 1 := h21
  have hos : st9.length + 1 ≤ L9.length := hos
  have tp1 : rget (kF S 19) (kK S 19) (nI st9.length) = nI t9 := (TKx.top hTK).1
  have tp2 : rget (kF S 20) (kK S 20) (nI st9.length) = nI y9 := (TKx.top hTK).2.1
  have tp3 : rget (kF S 21) (kK S 21) (nI st9.length) = nI p9 := (TKx.top hTK).2.2
  have ht : t9 < nT z := hsv.1.1
  have hy2 : y9 < 2 := hsv.1.2.1
  have hn0 : srt z t9 ≠ 0 := hsv.1.2.2.1
  have hk4 := hz.ks4 ht
  have hk2 := hz.k2le ht hn0
  have hp5 : p9 < 5000 := Nat.lt_of_le_of_lt hpb (hz.bd hC ht hn0 hy2)
  refine lv_aload_n hx hb dX2_goOn_0 rfl (lv_at hl 0 rfl) ?_
  refine va_get (D := gD G) (ci := 2) (v := .ref (kH S 19)) (C := RX2) (T := TX2) (N := 6) hx hb htu cu_in2 hown hK hP 3 cw_3 rfl 1 (by decide) (htu _ C_122) (fun _ h9 => h9) rfl dX2_goOn_1 ?_
  refine va_get (D := gD G) (ci := 0) (v := .int (nI (st9.length + 1))) (C := RX0) (T := TX0) (N := 2) hx hb htu cu_in0 hown hK hP (2 * 19 + 13) (c_hd rfl (cw_row (lt35 (by decide)))) rfl 1 (by decide) (htu _ C_450) (fun _ h9 => h9) (m_v (congrArg nI h19)) dX2_goOn_4 ?_
  refine lv_iconst (v := 1) hx hb dX2_goOn_7 (by decide) ?_
  refine lv_isub hx hb dX2_goOn_8 ?_
  refine m_top (y := nI (st9.length)) (nI_pred _) ?_
  refine lv_istore_n (lv' := [(1, .int (nI (st9.length))), (0, .ref (ga G 3))]) hx hb dX2_goOn_9 rfl hl (by decide) rfl (fun ls hl => ?_)
  refine lv_aload_n hx hb dX2_goOn_10 rfl (lv_at hl 1 rfl) ?_
  refine va_get (D := gD G) (ci := 2) (v := .ref (kH S 19)) (C := RX2) (T := TX2) (N := 6) hx hb htu cu_in2 hown hK hP 3 cw_3 rfl 1 (by decide) (htu _ C_122) (fun _ h9 => h9) rfl dX2_goOn_11 ?_
  refine lv_iload_n hx hb dX2_goOn_14 rfl (lv_at hl 0 rfl) ?_
  have hC0 := hC
  refine c_ci (c_runV (As := [.int (nI (st9.length))]) (rest := []) (q0 := (2 * 19 + 13)) (ci := 0) ⟨hx, hb, hml, hown, htu⟩ (c_getA l G S 19 (lt35 (by decide)) hC (kH S 19) rfl (nI (st9.length)) H) (cwV 1 htu hU_X2_80 rfl rfl rfl (by decide +kernel) ⟨Nat.le_of_ble_eq_true rfl, Nat.le_of_ble_eq_true rfl⟩) hP hK hD hC hpp (c_hd rfl (cw_row (lt35 (by decide)))) rfl rfl hl.1 rfl (lv_room (Nat.le_of_ble_eq_true rfl)) dX2_goOn_15) hS hD hh hpp (fun r_1 S_2 H locs hw_3 hP hD hS hC hh hs_4 hpq => ?_)
  clear hpp
  have hpp := hpq
  clear hpq
  obtain ⟨hu9, hw_3⟩ := hw_3
  have hu9 := hu9.symm
  subst hu9
  obtain rfl : r_1 = nI t9 := hw_3.trans tp1
  refine lv_istore_n (lv' := [(2, .int (nI t9)), (1, .int (nI (st9.length))), (0, .ref (ga G 3))]) hx hb dX2_goOn_18 rfl hl (by decide) rfl (fun ls hl => ?_)
  refine lv_aload_n hx hb dX2_goOn_19 rfl (lv_at hl 2 rfl) ?_
  refine va_get (D := gD G) (ci := 2) (v := .ref (kH S 20)) (C := RX2) (T := TX2) (N := 6) hx hb htu cu_in2 hown hK hP 3 cw_3 rfl 2 (by decide) (htu _ C_123) (fun _ h9 => h9) rfl dX2_goOn_20 ?_
  refine lv_iload_n hx hb dX2_goOn_23 rfl (lv_at hl 1 rfl) ?_
  have hC0 := hC
  refine c_ci (c_runV (As := [.int (nI (st9.length))]) (rest := []) (q0 := (2 * 20 + 13)) (ci := 0) ⟨hx, hb, hml, hown, htu⟩ (c_getA l G S 20 (lt35 (by decide)) hC (kH S 20) rfl (nI (st9.length)) H) (cwV 1 htu hU_X2_80 rfl rfl rfl (by decide +kernel) ⟨Nat.le_of_ble_eq_true rfl, Nat.le_of_ble_eq_true rfl⟩) hP hK hD hC hpp (c_hd rfl (cw_row (lt35 (by decide)))) rfl rfl hl.1 rfl (lv_room (Nat.le_of_ble_eq_true rfl)) dX2_goOn_24) hS hD hh hpp (fun r_5 S_6 H locs hw_7 hP hD hS hC hh hs_8 hpq => ?_)
  clear hpp
  have hpp := hpq
  clear hpq
  obtain ⟨hu9, hw_7⟩ := hw_7
  have hu9 := hu9.symm
  subst hu9
  obtain rfl : r_5 = nI y9 := hw_7.trans tp2
  refine lv_istore_n (lv' := [(3, .int (nI y9)), (2, .int (nI t9)), (1, .int (nI (st9.length))), (0, .ref (ga G 3))]) hx hb dX2_goOn_27 rfl hl (by decide) rfl (fun ls hl => ?_)
  refine lv_aload_n hx hb dX2_goOn_28 rfl (lv_at hl 3 rfl) ?_
  refine va_get (D := gD G) (ci := 2) (v := .ref (kH S 21)) (C := RX2) (T := TX2) (N := 6) hx hb htu cu_in2 hown hK hP 3 cw_3 rfl 3 (by decide) (htu _ C_124) (fun _ h9 => h9) rfl dX2_goOn_29 ?_
  refine lv_iload_n hx hb dX2_goOn_32 rfl (lv_at hl 2 rfl) ?_
  have hC0 := hC
  refine c_ci (c_runV (As := [.int (nI (st9.length))]) (rest := []) (q0 := (2 * 21 + 13)) (ci := 0) ⟨hx, hb, hml, hown, htu⟩ (c_getA l G S 21 (lt35 (by decide)) hC (kH S 21) rfl (nI (st9.length)) H) (cwV 1 htu hU_X2_80 rfl rfl rfl (by decide +kernel) ⟨Nat.le_of_ble_eq_true rfl, Nat.le_of_ble_eq_true rfl⟩) hP hK hD hC hpp (c_hd rfl (cw_row (lt35 (by decide)))) rfl rfl hl.1 rfl (lv_room (Nat.le_of_ble_eq_true rfl)) dX2_goOn_33) hS hD hh hpp (fun r_9 S_10 H locs hw_11 hP hD hS hC hh hs_12 hpq => ?_)
  clear hpp
  have hpp := hpq
  clear hpq
  obtain ⟨hu9, hw_11⟩ := hw_11
  have hu9 := hu9.symm
  subst hu9
  obtain rfl : r_9 = nI p9 := hw_11.trans tp3
  refine lv_istore (lv' := [(4, .int (nI p9)), (3, .int (nI y9)), (2, .int (nI t9)), (1, .int (nI (st9.length))), (0, .ref (ga G 3))]) hx hb dX2_goOn_36 hl (by decide) rfl (fun ls hl => ?_)
  refine lv_aload_n hx hb dX2_goOn_38 rfl (lv_at hl 4 rfl) ?_
  refine va_get (D := gD G) (ci := 2) (v := .ref (ga G 2)) (C := RX2) (T := TX2) (N := 6) hx hb htu cu_in2 hown hK hP 3 cw_3 rfl 0 (by decide) (htu _ C_128) (fun _ h9 => h9) rfl dX2_goOn_39 ?_
  refine lv_iload_n hx hb dX2_goOn_42 rfl (lv_at hl 2 rfl) ?_
  have hC0 := hC
  refine c_ci (c_runV (As := [.int (nI t9)]) (rest := []) (q0 := 2) (ci := 4) ⟨hx, hb, hml, hown, htu⟩ (y_sortOf l G S (nI t9) hC  H) (cwV 1 htu hU_X2_65 rfl rfl rfl (by decide +kernel) ⟨Nat.le_of_ble_eq_true rfl, Nat.le_of_ble_eq_true rfl⟩) hP hK hD hC hpp cw_2 rfl rfl hl.1 rfl (lv_room (Nat.le_of_ble_eq_true rfl)) dX2_goOn_43) hS hD hh hpp (fun r_13 S_14 H locs hw_15 hP hD hS hC hh hs_16 hpq => ?_)
  clear hpp
  have hpp := hpq
  clear hpq
  obtain ⟨-, hu9, hw_15⟩ := hw_15
  have hu9 := hu9.symm
  subst hu9
  obtain rfl : r_13 = nI (ks z t9) := hw_15.trans (hz.rs ht)
  refine lv_istore (lv' := [(5, .int (nI (ks z t9))), (4, .int (nI p9)), (3, .int (nI y9)), (2, .int (nI t9)), (1, .int (nI (st9.length))), (0, .ref (ga G 3))]) hx hb dX2_goOn_46 hl (by decide) rfl (fun ls hl => ?_)
  refine lv_aload_n hx hb dX2_goOn_48 rfl (lv_at hl 5 rfl) ?_
  refine va_get (D := gD G) (ci := 2) (v := .ref (kH S 21)) (C := RX2) (T := TX2) (N := 6) hx hb htu cu_in2 hown hK hP 3 cw_3 rfl 3 (by decide) (htu _ C_124) (fun _ h9 => h9) rfl dX2_goOn_49 ?_
  refine lv_iload_n hx hb dX2_goOn_52 rfl (lv_at hl 4 rfl) ?_
  refine lv_iload hx hb dX2_goOn_53 (lv_at hl 1 rfl) ?_
  refine lv_iconst (v := 1) hx hb dX2_goOn_55 (by decide) ?_
  refine lv_iadd hx hb dX2_goOn_56 ?_
  refine m_top (y := nI (p9 + 1)) (nI_add p9 1) ?_
  have hC0 := hC
  refine c_cv (c_runV (As := [.int (nI (st9.length)), .int (nI (p9 + 1))]) (rest := []) (q0 := (2 * 21 + 13)) (ci := 0) ⟨hx, hb, hml, hown, htu⟩ (c_setA l G S 21 (lt35 (by decide)) hC (kH S 21) rfl (nI (st9.length)) (nI (p9 + 1)) H) (cwV 2 htu hU_X2_86 rfl rfl rfl (by decide +kernel) ⟨Nat.le_of_ble_eq_true rfl, Nat.le_of_ble_eq_true rfl⟩) hP hK hD hC hpp (c_hd rfl (cw_row (lt35 (by decide)))) rfl rfl hl.1 rfl (lv_room (Nat.le_of_ble_eq_true rfl)) dX2_goOn_57) hS hD hh hpp (fun S_18 H locs hw_19 hP hD hS hC hh hs_20 hpq => ?_)
  clear hpp
  have hpp := hpq
  clear hpq
  try dsimp only at hw_19
  have aw_21 : AW [21] [] S S_18 := (by rw [hw_19]; exact AW.u (by decide))
  have aw_21t : AW [19, 20, 21, 22] [201] S S_18 := AW.rf.tr (aw_21.mono (by decide) (by decide))
  have kk_22 : kK S_18 19 = st9.length + 1 := (aw_21.2.1 19 (lt35 (by decide)) (by decide)).2.trans h19
  have kk_23 : kK S_18 20 = st9.length + 1 := (aw_21.2.1 20 (lt35 (by decide)) (by decide)).2.trans h20
  have ii_24 : S_18.1 201 = nI (L9.length) := (aw_21.1 201 (by decide)).trans hsg.1
  have ty_25 := TY.aw hY aw_21 (by decide)
  have kk_26 : kK S_18 21 = st9.length + 1 := by rw [hw_19]; exact uR_K.trans h21
  have nx_27e : kF S_18 21 = upd (kF S 21) st9.length (nI (p9 + 1)) := by rw [hw_19, uR_F]; exact rset_at (by omega) (by omega)
  have nx_27k : kK S_18 21 = kK S 21 := by rw [hw_19]; exact uR_K
  have nx_27t : TKx z S_18 401 ((t9, y9, p9 + 1) :: st9) L9 := TKx.nx hTK aw_21 nx_27e nx_27k (by decide) (by decide)
  refine lv_iload hx hb dX2_goOn_60 (lv_at hl 0 rfl) ?_
  refine lv_iconst (v := 2) hx hb dX2_goOn_62 (by decide) ?_
  refine lv_icmp_ne (tgt := 95) hx hb dX2_goOn_63 (by decide) (fun c_28 => ?_) (fun c_28 => ?_)
  · skip
    have nc_28 : ¬ ks z t9 = 2 := fun h9 => c_28 ((nI_eq (a := ks z t9) (b := 2) (by omega) (by omega)).mpr h9)
    refine lv_iload hx hb dX2_goOn_95 (lv_at hl 0 rfl) ?_
    refine lv_iconst (v := 2) hx hb dX2_goOn_97 (by decide) ?_
    refine lv_icmp_ne (tgt := 123) hx hb dX2_goOn_98 (by decide) (fun c_29 => ?_) (fun c_29 => absurd c_29 c_28)
    refine lv_iload hx hb dX2_goOn_123 (lv_at hl 0 rfl) ?_
    refine lv_iconst (v := 3) hx hb dX2_goOn_125 (by decide) ?_
    refine lv_icmp_ne (tgt := 177) hx hb dX2_goOn_126 (by decide) (fun c_30 => ?_) (fun c_30 => ?_)
    · skip
      have nc_30 : ¬ ks z t9 = 3 := fun h9 => c_30 ((nI_eq (a := ks z t9) (b := 3) (by omega) (by omega)).mpr h9)
      refine lv_iload hx hb dX2_goOn_177 (lv_at hl 0 rfl) ?_
      refine lv_iconst (v := 4) hx hb dX2_goOn_179 (by decide) ?_
      refine lv_icmp_ne (tgt := 222) hx hb dX2_goOn_180 (by decide) (fun c_31 => absurd (congrArg nI (show ks z t9 = 4 by omega)) c_31) (fun c_31 => ?_)
      have hs3 : srt z t9 = 3 := (hz.e3 ht).mp (by omega)
      have hlen := (hz.aw aw_21t (by decide)).rlen hC ht hs3 hy2
      refine lv_iload hx hb dX2_goOn_183 (lv_at hl 1 rfl) ?_
      refine lv_aload_n hx hb dX2_goOn_185 rfl (lv_at hl 5 rfl) ?_
      refine va_get (D := gD G) (ci := 2) (v := .ref (ga G 2)) (C := RX2) (T := TX2) (N := 6) hx hb htu cu_in2 hown hK hP 3 cw_3 rfl 0 (by decide) (htu _ C_128) (fun _ h9 => h9) rfl dX2_goOn_186 ?_
      refine lv_iload_n hx hb dX2_goOn_189 rfl (lv_at hl 3 rfl) ?_
      refine lv_iload_n hx hb dX2_goOn_190 rfl (lv_at hl 2 rfl) ?_
      have hC0 := hC
      refine c_cr (c_runV (As := [.int (nI t9), .int (nI y9)]) (rest := [.int (nI p9)]) (q0 := 2) (ci := 4) ⟨hx, hb, hml, hown, htu⟩ (y_boundsOf l G S_18 T V VP X Y Z (nI t9) y9 hC ty_25 ((by omega)) hy2 H) (cwV 2 htu hU_X2_76 rfl rfl rfl (by decide +kernel) ⟨Nat.le_of_ble_eq_true rfl, Nat.le_of_ble_eq_true rfl⟩) hP hK hD hC hpp cw_2 rfl rfl hl.1 rfl (lv_room (Nat.le_of_ble_eq_true rfl)) dX2_goOn_191) hS hD hh hpp (fun r_32 S_33 H locs hw_34 hP hD hS hC hh hs_35 hpq => ?_)
      clear hpp
      have hpp := hpq
      clear hpq
      obtain ⟨-, hu9, hw_34⟩ := hw_34
      have hu9 := hu9.symm
      subst hu9
      obtain ⟨br_36r, br_36e, br_361⟩ := hw_34
      have br_36b := ty_25.2.1.2.2.1
      have br_36l : br_36r < 35 + kB S_18 := bnd_lt br_361 br_36b hy2
      have br_36h : kH S_18 br_36r = r_32 := br_36e.symm
      have br_36q : br_36r = 35 + (2 * one z t9 + y9) := (hz.aw aw_21t (by decide)).bof ht hs3 br_361 (by omega) (by omega)
      have br_36k : kK S_18 br_36r = (row z y9 t9).length := by rw [br_36q]; exact ((hz.aw aw_21t (by decide)).bn ht hs3 hy2).1
      refine va_get (D := gD G) (ci := 0) (v := .int (nI ((row z y9 t9).length))) (C := RX0) (T := TX0) (N := 2) hx hb htu cu_in0 hown hK hP (2 * br_36r + 13) (c_hd br_36h (cw_row br_36l)) rfl 1 (by decide) (htu _ C_450) (fun _ h9 => h9) (m_v (congrArg nI br_36k)) dX2_goOn_194 ?_
      refine lv_icmp_ge (tgt := 222) hx hb dX2_goOn_197 (by decide) (fun c_37 => ?_) (fun c_37 => ?_)
      · skip
        have nc_37 : (row z y9 t9).length ≤ p9 := (nI_leI (a := (row z y9 t9).length) (b := p9) (by omega) (by omega)).mp c_37
        refine lv_iload hx hb dX2_goOn_222 (lv_at hl 0 rfl) ?_
        refine lv_iconst (v := 3) hx hb dX2_goOn_224 (by decide) ?_
        refine lv_icmp_ne (tgt := 237) hx hb dX2_goOn_225 (by decide) (fun c_38 => ?_) (fun c_38 => absurd c_38 c_30)
        refine lv_iload hx hb dX2_goOn_237 (lv_at hl 0 rfl) ?_
        refine lv_iconst (v := 4) hx hb dX2_goOn_239 (by decide) ?_
        refine lv_icmp_ne (tgt := 252) hx hb dX2_goOn_240 (by decide) (fun c_39 => absurd c_31 c_39) (fun c_39 => ?_)
        refine lv_aload_n hx hb dX2_goOn_243 rfl (lv_at hl 5 rfl) ?_
        refine va_get (D := gD G) (ci := 2) (v := .ref (ga G 7)) (C := RX2) (T := TX2) (N := 6) hx hb htu cu_in2 hown hK hP 3 cw_3 rfl 5 (by decide) (htu _ C_127) (fun _ h9 => h9) (c_hv ((aw_21.2.2.1 (by decide)).trans hTS)) dX2_goOn_244 ?_
        refine lv_bipush (v := 46) hx hb dX2_goOn_247 (by decide) ?_
        have hC0 := hC
        refine c_cv (c_runV (As := [.int 46]) (rest := []) (q0 := 7) (ci := 1) ⟨hx, hb, hml, hown, htu⟩ (xs_put_7 l G S_18 L9 46 hC nx_27t.2.1 nx_27t.2.2.1 H) (cwV 1 htu hU_X2_69 rfl rfl rfl (by decide +kernel) ⟨Nat.le_of_ble_eq_true rfl, Nat.le_of_ble_eq_true rfl⟩) hP hK hD hC hpp cw_7 rfl rfl hl.1 rfl (lv_room (Nat.le_of_ble_eq_true rfl)) dX2_goOn_249) hS hD hh hpp (fun S_41 H locs hw_42 hP hD hS hC hh hs_43 hpq => ?_)
        clear hpp
        have hpp := hpq
        clear hpq
        try dsimp only at hw_42
        have aw_44 : AW [] [201] S_18 S_41 := hw_42.1
        have aw_44t : AW [19, 20, 21, 22] [201] S S_41 := aw_21t.tr (aw_44.mono (by decide) (by decide))
        have kk_45 : kK S_41 19 = st9.length + 1 := (aw_44.2.1 19 (lt35 (by decide)) (by decide)).2.trans kk_22
        have kk_46 : kK S_41 20 = st9.length + 1 := (aw_44.2.1 20 (lt35 (by decide)) (by decide)).2.trans kk_23
        have kk_47 : kK S_41 21 = st9.length + 1 := (aw_44.2.1 21 (lt35 (by decide)) (by decide)).2.trans kk_26
        have ha_48r : br_36r < 35 + kB S_41 := by have := hs_43.1; have := br_36l; omega
        have ha_48 : kH S_41 br_36r = r_32 := (hs_43.2 br_36r br_36l).trans br_36h
        have ty_49 := TY.aw ty_25 aw_44 (by decide)
        have sg_50h : SG S_41 401 (lput 400 L9 (b8 46)) := hw_42.2
        have sg_50q : (lput 400 L9 (b8 46)).length ≤ 400 ∧ (L9).length ≤ (lput 400 L9 (b8 46)).length := lput_len nx_27t.2.2.1
        have sg_50e : L9.length ≤ (lput 400 L9 (b8 46)).length := Nat.le_trans (Nat.le_refl _) sg_50q.2
        have sg_50l : L9.length < 400 → L9.length < (lput 400 L9 (b8 46)).length := fun h => lp_s h
        have sg_50t := TKw.aw nx_27t aw_44 (by decide) sg_50h sg_50q.2 sg_50q.1
        refine lv_aload_n hx hb dX2_goOn_252 rfl (lv_at hl 5 rfl) ?_
        have hC0 := hC
        refine c_cv (c_runV (As := []) (rest := []) (q0 := 3) (ci := 2) ⟨hx, hb, hml, hown, htu⟩ (xl_close_7 l G S_41 T V VP X Y Z z st9 ((lput 400 L9 (b8 46))) t9 y9 (p9 + 1) hC ty_49 ((hz.aw aw_44t (by decide))) sg_50t H) (cwV 0 htu hU_X2_59 rfl rfl rfl (by decide +kernel) ⟨Nat.le_of_ble_eq_true rfl, Nat.le_of_ble_eq_true rfl⟩) hP hK hD hC hpp cw_3 rfl rfl hl.1 rfl (lv_room (Nat.le_of_ble_eq_true rfl)) dX2_goOn_253) hS hD hh hpp (fun S_52 H locs hw_53 hP hD hS hC hh hs_54 hpq => ?_)
        clear hpp
        have hpp := hpq
        clear hpq
        try dsimp only at hw_53
        have aw_55 : AW [19, 20, 21, 22] [] S_41 S_52 := hw_53.1
        have aw_55t : AW [19, 20, 21, 22] [201] S S_52 := aw_44t.tr (aw_55.mono (by decide) (by decide))
        have ii_56 : S_52.1 201 = nI ((lput 400 L9 (b8 46)).length) := (aw_55.1 201 (by decide)).trans sg_50h.1
        have ha_57r : br_36r < 35 + kB S_52 := by have := hs_54.1; have := ha_48r; omega
        have ha_57 : kH S_52 br_36r = r_32 := (hs_54.2 br_36r ha_48r).trans ha_48
        have ty_58 := TY.aw ty_49 aw_55 (by decide)
        have cl_59 := hw_53.2
        exact c_vret hx hb hr hK hP hD hS hC hh hpp ⟨aw_55t, ⟨st9, (lput 400 L9 (b8 46)), cl_59, (rs3b hs3 (by have := nc_37; omega)).symm, hSP, tg_cl sg_50e⟩⟩ dX2_goOn_256 hlocks
      · skip
        have nc_37 : ¬ (row z y9 t9).length ≤ p9 := fun h9 => c_37 ((nI_leI (a := (row z y9 t9).length) (b := p9) (by omega) (by omega)).mpr h9)
        refine lv_aload_n hx hb dX2_goOn_200 rfl (lv_at hl 5 rfl) ?_
        refine lv_aload_n hx hb dX2_goOn_201 rfl (lv_at hl 5 rfl) ?_
        refine va_get (D := gD G) (ci := 2) (v := .ref (ga G 2)) (C := RX2) (T := TX2) (N := 6) hx hb htu cu_in2 hown hK hP 3 cw_3 rfl 0 (by decide) (htu _ C_128) (fun _ h9 => h9) rfl dX2_goOn_202 ?_
        refine lv_iload_n hx hb dX2_goOn_205 rfl (lv_at hl 3 rfl) ?_
        refine lv_iload_n hx hb dX2_goOn_206 rfl (lv_at hl 2 rfl) ?_
        have hC0 := hC
        refine c_cr (c_runV (As := [.int (nI t9), .int (nI y9)]) (rest := [.ref (ga G 3)]) (q0 := 2) (ci := 4) ⟨hx, hb, hml, hown, htu⟩ (y_boundsOf l G S_18 T V VP X Y Z (nI t9) y9 hC ty_25 ((by omega)) hy2 H) (cwV 2 htu hU_X2_76 rfl rfl rfl (by decide +kernel) ⟨Nat.le_of_ble_eq_true rfl, Nat.le_of_ble_eq_true rfl⟩) hP hK hD hC hpp cw_2 rfl rfl hl.1 rfl (lv_room (Nat.le_of_ble_eq_true rfl)) dX2_goOn_207) hS hD hh hpp (fun r_60 S_61 H locs hw_62 hP hD hS hC hh hs_63 hpq => ?_)
        clear hpp
        have hpp := hpq
        clear hpq
        obtain ⟨-, hu9, hw_62⟩ := hw_62
        have hu9 := hu9.symm
        subst hu9
        obtain ⟨br_64r, br_64e, br_641⟩ := hw_62
        have br_64b := ty_25.2.1.2.2.1
        have br_64l : br_64r < 35 + kB S_18 := bnd_lt br_641 br_64b hy2
        have br_64h : kH S_18 br_64r = r_60 := br_64e.symm
        have br_64q : br_64r = 35 + (2 * one z t9 + y9) := (hz.aw aw_21t (by decide)).bof ht hs3 br_641 (by omega) (by omega)
        have br_64k : kK S_18 br_64r = (row z y9 t9).length := by rw [br_64q]; exact ((hz.aw aw_21t (by decide)).bn ht hs3 hy2).1
        refine lv_iload hx hb dX2_goOn_210 (lv_at hl 1 rfl) ?_
        have hC0 := hC
        refine c_ci (c_runV (As := [.int (nI p9)]) (rest := [.ref (ga G 3)]) (q0 := (2 * br_64r + 13)) (ci := 0) ⟨hx, hb, hml, hown, htu⟩ (c_getA l G S_18 br_64r br_64l hC r_60 br_64h (nI p9) H) (cwV 1 htu hU_X2_80 rfl rfl rfl (by decide +kernel) ⟨Nat.le_of_ble_eq_true rfl, Nat.le_of_ble_eq_true rfl⟩) hP hK hD hC hpp (c_hd br_64h (cw_row br_64l)) rfl rfl hl.1 rfl (lv_room (Nat.le_of_ble_eq_true rfl)) dX2_goOn_212) hS hD hh hpp (fun r_65 S_66 H locs hw_67 hP hD hS hC hh hs_68 hpq => ?_)
        clear hpp
        have hpp := hpq
        clear hpq
        obtain ⟨hu9, hw_67⟩ := hw_67
        have hu9 := hu9.symm
        subst hu9
        have hpr : p9 < (row z y9 t9).length := by have := nc_37; omega
        obtain ⟨rb1, rb2⟩ := ((hz.aw aw_21t (by decide)).bn ht hs3 hy2).2 p9 hpr
        obtain rfl : r_65 = nI ((row z y9 t9).getD p9 0) := hw_67.trans (rget_k (by rw [br_64k]; exact hpr) (by rw [br_64k]; omega) (by rw [br_64q]; exact rb1))
        refine lv_iload_n hx hb dX2_goOn_215 rfl (lv_at hl 2 rfl) ?_
        have hC0 := hC
        refine c_cv (c_runV (As := [.int (nI ((row z y9 t9).getD p9 0)), .int (nI y9)]) (rest := []) (q0 := 3) (ci := 2) ⟨hx, hb, hml, hown, htu⟩ (xl_begin_7 l G S_18 T V VP X Y Z z (((t9, y9, p9 + 1) :: st9)) L9 y9 ((row z y9 t9).getD p9 0) hC ty_25 hVP (((aw_21.2.2.1 (by decide)).trans hTS)) ((hz.aw aw_21t (by decide))) nx_27t ((Or.inl hsp)) rb2 hy2 H) (cwV 2 htu hU_X2_46 rfl rfl rfl (by decide +kernel) ⟨Nat.le_of_ble_eq_true rfl, Nat.le_of_ble_eq_true rfl⟩) hP hK hD hC hpp cw_3 rfl rfl hl.1 rfl (lv_room (Nat.le_of_ble_eq_true rfl)) dX2_goOn_216) hS hD hh hpp (fun S_70 H locs hw_71 hP hD hS hC hh hs_72 hpq => ?_)
        clear hpp
        have hpp := hpq
        clear hpq
        try dsimp only at hw_71
        have aw_73 : AW [19, 20, 21, 22] [201] S_18 S_70 := hw_71.1
        have aw_73t : AW [19, 20, 21, 22] [201] S S_70 := aw_21t.tr (aw_73.mono (by decide) (by decide))
        have ha_74r : br_36r < 35 + kB S_70 := by have := hs_72.1; have := br_36l; omega
        have ha_74 : kH S_70 br_36r = r_32 := (hs_72.2 br_36r br_36l).trans br_36h
        have ha_75r : br_64r < 35 + kB S_70 := by have := hs_72.1; have := br_64l; omega
        have ha_75 : kH S_70 br_64r = r_60 := (hs_72.2 br_64r br_64l).trans br_64h
        have ty_76 := TY.aw ty_25 aw_73 (by decide)
        obtain ⟨bg_77s, bg_77L, bg_77, bg_77e, bg_771, bg_77o, bg_772⟩ := hw_71.2
        refine lv_goto (tgt := 256) hx hb dX2_goOn_219 (by decide) ?_
        exact c_vret hx hb hr hK hP hD hS hC hh hpp ⟨aw_73t, ⟨bg_77s, bg_77L, bg_77, bg_77e.trans (rs3a hs3 hpr).symm, sp_bg bg_77o ⟨(by rw [bd_3 hs3]; exact hpr), hSP⟩, tg_dec (bg_772 hsp) bg_77.2.2.1 (len_bg bg_77o)⟩⟩ dX2_goOn_256 hlocks
    · skip
      have nc_30 : ks z t9 = 3 := (nI_eq (a := ks z t9) (b := 3) (by omega) (by omega)).mp c_30
      have hs2 : srt z t9 = 2 := hz.k2 ht nc_30
      refine lv_iload hx hb dX2_goOn_129 (lv_at hl 1 rfl) ?_
      refine lv_aload_n hx hb dX2_goOn_131 rfl (lv_at hl 5 rfl) ?_
      refine va_get (D := gD G) (ci := 2) (v := .ref (ga G 2)) (C := RX2) (T := TX2) (N := 6) hx hb htu cu_in2 hown hK hP 3 cw_3 rfl 0 (by decide) (htu _ C_128) (fun _ h9 => h9) rfl dX2_goOn_132 ?_
      refine lv_iload_n hx hb dX2_goOn_135 rfl (lv_at hl 3 rfl) ?_
      have hC0 := hC
      refine c_ci (c_runV (As := [.int (nI t9)]) (rest := [.int (nI p9)]) (q0 := 2) (ci := 4) ⟨hx, hb, hml, hown, htu⟩ (x_fieldCount l G S_18 (nI t9) hC  H) (cwV 1 htu hU_X2_101 rfl rfl rfl (by decide +kernel) ⟨Nat.le_of_ble_eq_true rfl, Nat.le_of_ble_eq_true rfl⟩) hP hK hD hC hpp cw_2 rfl rfl hl.1 rfl (lv_room (Nat.le_of_ble_eq_true rfl)) dX2_goOn_136) hS hD hh hpp (fun r_78 S_79 H locs hw_80 hP hD hS hC hh hs_81 hpq => ?_)
      clear hpp
      have hpp := hpq
      clear hpq
      obtain ⟨-, hu9, hw_80⟩ := hw_80
      have hu9 := hu9.symm
      subst hu9
      obtain ⟨hc1, hc2, hc3⟩ := (hz.aw aw_21t (by decide)).cnt ht hs2
      obtain rfl : r_78 = nI (parts z t9).length := (hw_80 (((hz.aw aw_21t (by decide)).is ht (k := 3) (by decide) (by decide)).mpr (by rw [hs2]))).trans hc1
      refine lv_icmp_ge (tgt := 177) hx hb dX2_goOn_139 (by decide) (fun c_82 => ?_) (fun c_82 => ?_)
      · skip
        have nc_82 : (parts z t9).length ≤ p9 := (nI_leI (a := (parts z t9).length) (b := p9) (by omega) (by omega)).mp c_82
        refine lv_iload hx hb dX2_goOn_177 (lv_at hl 0 rfl) ?_
        refine lv_iconst (v := 4) hx hb dX2_goOn_179 (by decide) ?_
        refine lv_icmp_ne (tgt := 222) hx hb dX2_goOn_180 (by decide) (fun c_83 => ?_) (fun c_83 => absurd c_83 (fun h => absurd (c_30.symm.trans h) (by decide)))
        refine lv_iload hx hb dX2_goOn_222 (lv_at hl 0 rfl) ?_
        refine lv_iconst (v := 3) hx hb dX2_goOn_224 (by decide) ?_
        refine lv_icmp_ne (tgt := 237) hx hb dX2_goOn_225 (by decide) (fun c_84 => absurd c_30 c_84) (fun c_84 => ?_)
        refine lv_aload_n hx hb dX2_goOn_228 rfl (lv_at hl 5 rfl) ?_
        refine va_get (D := gD G) (ci := 2) (v := .ref (ga G 7)) (C := RX2) (T := TX2) (N := 6) hx hb htu cu_in2 hown hK hP 3 cw_3 rfl 5 (by decide) (htu _ C_127) (fun _ h9 => h9) (c_hv ((aw_21.2.2.1 (by decide)).trans hTS)) dX2_goOn_229 ?_
        refine lv_bipush (v := 125) hx hb dX2_goOn_232 (by decide) ?_
        have hC0 := hC
        refine c_cv (c_runV (As := [.int 125]) (rest := []) (q0 := 7) (ci := 1) ⟨hx, hb, hml, hown, htu⟩ (xs_put_7 l G S_18 L9 125 hC nx_27t.2.1 nx_27t.2.2.1 H) (cwV 1 htu hU_X2_69 rfl rfl rfl (by decide +kernel) ⟨Nat.le_of_ble_eq_true rfl, Nat.le_of_ble_eq_true rfl⟩) hP hK hD hC hpp cw_7 rfl rfl hl.1 rfl (lv_room (Nat.le_of_ble_eq_true rfl)) dX2_goOn_234) hS hD hh hpp (fun S_86 H locs hw_87 hP hD hS hC hh hs_88 hpq => ?_)
        clear hpp
        have hpp := hpq
        clear hpq
        try dsimp only at hw_87
        have aw_89 : AW [] [201] S_18 S_86 := hw_87.1
        have aw_89t : AW [19, 20, 21, 22] [201] S S_86 := aw_21t.tr (aw_89.mono (by decide) (by decide))
        have kk_90 : kK S_86 19 = st9.length + 1 := (aw_89.2.1 19 (lt35 (by decide)) (by decide)).2.trans kk_22
        have kk_91 : kK S_86 20 = st9.length + 1 := (aw_89.2.1 20 (lt35 (by decide)) (by decide)).2.trans kk_23
        have kk_92 : kK S_86 21 = st9.length + 1 := (aw_89.2.1 21 (lt35 (by decide)) (by decide)).2.trans kk_26
        have ty_93 := TY.aw ty_25 aw_89 (by decide)
        have sg_94h : SG S_86 401 (lput 400 L9 (b8 125)) := hw_87.2
        have sg_94q : (lput 400 L9 (b8 125)).length ≤ 400 ∧ (L9).length ≤ (lput 400 L9 (b8 125)).length := lput_len nx_27t.2.2.1
        have sg_94e : L9.length ≤ (lput 400 L9 (b8 125)).length := Nat.le_trans (Nat.le_refl _) sg_94q.2
        have sg_94l : L9.length < 400 → L9.length < (lput 400 L9 (b8 125)).length := fun h => lp_s h
        have sg_94t := TKw.aw nx_27t aw_89 (by decide) sg_94h sg_94q.2 sg_94q.1
        refine lv_iload hx hb dX2_goOn_237 (lv_at hl 0 rfl) ?_
        refine lv_iconst (v := 4) hx hb dX2_goOn_239 (by decide) ?_
        refine lv_icmp_ne (tgt := 252) hx hb dX2_goOn_240 (by decide) (fun c_95 => ?_) (fun c_95 => absurd c_95 (fun h => absurd (c_30.symm.trans h) (by decide)))
        refine lv_aload_n hx hb dX2_goOn_252 rfl (lv_at hl 5 rfl) ?_
        have hC0 := hC
        refine c_cv (c_runV (As := []) (rest := []) (q0 := 3) (ci := 2) ⟨hx, hb, hml, hown, htu⟩ (xl_close_7 l G S_86 T V VP X Y Z z st9 ((lput 400 L9 (b8 125))) t9 y9 (p9 + 1) hC ty_93 ((hz.aw aw_89t (by decide))) sg_94t H) (cwV 0 htu hU_X2_59 rfl rfl rfl (by decide +kernel) ⟨Nat.le_of_ble_eq_true rfl, Nat.le_of_ble_eq_true rfl⟩) hP hK hD hC hpp cw_3 rfl rfl hl.1 rfl (lv_room (Nat.le_of_ble_eq_true rfl)) dX2_goOn_253) hS hD hh hpp (fun S_97 H locs hw_98 hP hD hS hC hh hs_99 hpq => ?_)
        clear hpp
        have hpp := hpq
        clear hpq
        try dsimp only at hw_98
        have aw_100 : AW [19, 20, 21, 22] [] S_86 S_97 := hw_98.1
        have aw_100t : AW [19, 20, 21, 22] [201] S S_97 := aw_89t.tr (aw_100.mono (by decide) (by decide))
        have ii_101 : S_97.1 201 = nI ((lput 400 L9 (b8 125)).length) := (aw_100.1 201 (by decide)).trans sg_94h.1
        have ty_102 := TY.aw ty_93 aw_100 (by decide)
        have cl_103 := hw_98.2
        exact c_vret hx hb hr hK hP hD hS hC hh hpp ⟨aw_100t, ⟨st9, (lput 400 L9 (b8 125)), cl_103, (rs2b hs2 (by have := nc_82; omega)).symm, hSP, tg_cl sg_94e⟩⟩ dX2_goOn_256 hlocks
      · skip
        have nc_82 : ¬ (parts z t9).length ≤ p9 := fun h9 => c_82 ((nI_leI (a := (parts z t9).length) (b := p9) (by omega) (by omega)).mpr h9)
        refine lv_aload_n hx hb dX2_goOn_142 rfl (lv_at hl 5 rfl) ?_
        refine va_get (D := gD G) (ci := 2) (v := .ref (ga G 7)) (C := RX2) (T := TX2) (N := 6) hx hb htu cu_in2 hown hK hP 3 cw_3 rfl 5 (by decide) (htu _ C_127) (fun _ h9 => h9) (c_hv ((aw_21.2.2.1 (by decide)).trans hTS)) dX2_goOn_143 ?_
        refine lv_aload_n hx hb dX2_goOn_146 rfl (lv_at hl 5 rfl) ?_
        refine va_get (D := gD G) (ci := 2) (v := .ref (ga G 2)) (C := RX2) (T := TX2) (N := 6) hx hb htu cu_in2 hown hK hP 3 cw_3 rfl 0 (by decide) (htu _ C_128) (fun _ h9 => h9) rfl dX2_goOn_147 ?_
        refine lv_iload_n hx hb dX2_goOn_150 rfl (lv_at hl 3 rfl) ?_
        refine lv_iload hx hb dX2_goOn_151 (lv_at hl 1 rfl) ?_
        have hC0 := hC
        refine c_ci (c_runV (As := [.int (nI t9), .int (nI p9)]) (rest := [.ref (ga G 7)]) (q0 := 2) (ci := 4) ⟨hx, hb, hml, hown, htu⟩ (x_labelAt l G S_18 (nI t9) (nI p9) hC  H) (cwV 2 htu hU_X2_104 rfl rfl rfl (by decide +kernel) ⟨Nat.le_of_ble_eq_true rfl, Nat.le_of_ble_eq_true rfl⟩) hP hK hD hC hpp cw_2 rfl rfl hl.1 rfl (lv_room (Nat.le_of_ble_eq_true rfl)) dX2_goOn_153) hS hD hh hpp (fun r_104 S_105 H locs hw_106 hP hD hS hC hh hs_107 hpq => ?_)
        clear hpp
        have hpp := hpq
        clear hpq
        obtain ⟨-, hu9, hw_106⟩ := hw_106
        have hu9 := hu9.symm
        subst hu9
        have hpr : p9 < (parts z t9).length := by have := nc_82; omega
        have hlab := ((hz.aw aw_21t (by decide)).lab ht hs2 hpr).2.2.2
        obtain rfl : r_104 = nI ((labs z t9).getD p9 0) := hw_106.trans ((hz.aw aw_21t (by decide)).lab ht hs2 hpr).1
        have hC0 := hC
        refine c_cv (c_runV (As := [.int (nI ((labs z t9).getD p9 0))]) (rest := []) (q0 := 7) (ci := 1) ⟨hx, hb, hml, hown, htu⟩ (xs_putLetter_7 l G S_18 L9 (nI ((labs z t9).getD p9 0)) hC nx_27t.2.1 nx_27t.2.2.1 H) (cwV 1 htu hU_X2_108 rfl rfl rfl (by decide +kernel) ⟨Nat.le_of_ble_eq_true rfl, Nat.le_of_ble_eq_true rfl⟩) hP hK hD hC hpp cw_7 rfl rfl hl.1 rfl (lv_room (Nat.le_of_ble_eq_true rfl)) dX2_goOn_156) hS hD hh hpp (fun S_109 H locs hw_110 hP hD hS hC hh hs_111 hpq => ?_)
        clear hpp
        have hpp := hpq
        clear hpq
        try dsimp only at hw_110
        have aw_112 : AW [] [201] S_18 S_109 := hw_110.1
        have aw_112t : AW [19, 20, 21, 22] [201] S S_109 := aw_21t.tr (aw_112.mono (by decide) (by decide))
        have kk_113 : kK S_109 19 = st9.length + 1 := (aw_112.2.1 19 (lt35 (by decide)) (by decide)).2.trans kk_22
        have kk_114 : kK S_109 20 = st9.length + 1 := (aw_112.2.1 20 (lt35 (by decide)) (by decide)).2.trans kk_23
        have kk_115 : kK S_109 21 = st9.length + 1 := (aw_112.2.1 21 (lt35 (by decide)) (by decide)).2.trans kk_26
        have ty_116 := TY.aw ty_25 aw_112 (by decide)
        have sg_117h : SG S_109 401 (lput 400 L9 (b8 (nI (97 + ((labs z t9).getD p9 0))))) := by have := hw_110.2; rw [i2c_let _ hlab] at this; exact this
        have sg_117q : (lput 400 L9 (b8 (nI (97 + ((labs z t9).getD p9 0))))).length ≤ 400 ∧ (L9).length ≤ (lput 400 L9 (b8 (nI (97 + ((labs z t9).getD p9 0))))).length := lput_len nx_27t.2.2.1
        have sg_117e : L9.length ≤ (lput 400 L9 (b8 (nI (97 + ((labs z t9).getD p9 0))))).length := Nat.le_trans (Nat.le_refl _) sg_117q.2
        have sg_117l : L9.length < 400 → L9.length < (lput 400 L9 (b8 (nI (97 + ((labs z t9).getD p9 0))))).length := fun h => lp_s h
        have sg_117t := TKw.aw nx_27t aw_112 (by decide) sg_117h sg_117q.2 sg_117q.1
        refine lv_aload_n hx hb dX2_goOn_159 rfl (lv_at hl 5 rfl) ?_
        refine lv_aload_n hx hb dX2_goOn_160 rfl (lv_at hl 5 rfl) ?_
        refine va_get (D := gD G) (ci := 2) (v := .ref (ga G 2)) (C := RX2) (T := TX2) (N := 6) hx hb htu cu_in2 hown hK hP 3 cw_3 rfl 0 (by decide) (htu _ C_128) (fun _ h9 => h9) rfl dX2_goOn_161 ?_
        refine lv_iload_n hx hb dX2_goOn_164 rfl (lv_at hl 3 rfl) ?_
        refine lv_iload hx hb dX2_goOn_165 (lv_at hl 1 rfl) ?_
        have hC0 := hC
        refine c_ci (c_runV (As := [.int (nI t9), .int (nI p9)]) (rest := [.ref (ga G 3)]) (q0 := 2) (ci := 4) ⟨hx, hb, hml, hown, htu⟩ (x_partAt l G S_109 (nI t9) (nI p9) hC  H) (cwV 2 htu hU_X2_111 rfl rfl rfl (by decide +kernel) ⟨Nat.le_of_ble_eq_true rfl, Nat.le_of_ble_eq_true rfl⟩) hP hK hD hC hpp cw_2 rfl rfl hl.1 rfl (lv_room (Nat.le_of_ble_eq_true rfl)) dX2_goOn_167) hS hD hh hpp (fun r_118 S_119 H locs hw_120 hP hD hS hC hh hs_121 hpq => ?_)
        clear hpp
        have hpp := hpq
        clear hpq
        obtain ⟨-, hu9, hw_120⟩ := hw_120
        have hu9 := hu9.symm
        subst hu9
        have hprt := ((hz.aw aw_112t (by decide)).lab ht hs2 hpr).2.2.1
        obtain rfl : r_118 = nI ((parts z t9).getD p9 0) := hw_120.trans ((hz.aw aw_112t (by decide)).lab ht hs2 hpr).2.1
        refine lv_iload_n hx hb dX2_goOn_170 rfl (lv_at hl 2 rfl) ?_
        have hC0 := hC
        refine c_cv (c_runV (As := [.int (nI ((parts z t9).getD p9 0)), .int (nI y9)]) (rest := []) (q0 := 3) (ci := 2) ⟨hx, hb, hml, hown, htu⟩ (xl_begin_7 l G S_109 T V VP X Y Z z (((t9, y9, p9 + 1) :: st9)) ((lput 400 L9 (b8 (nI (97 + ((labs z t9).getD p9 0)))))) y9 ((parts z t9).getD p9 0) hC ty_116 hVP (((aw_112.2.2.1 (by decide)).trans ((aw_21.2.2.1 (by decide)).trans hTS))) ((hz.aw aw_112t (by decide))) sg_117t ((Or.inr (Nat.lt_of_le_of_lt hos (sg_117l hsp)))) hprt hy2 H) (cwV 2 htu hU_X2_46 rfl rfl rfl (by decide +kernel) ⟨Nat.le_of_ble_eq_true rfl, Nat.le_of_ble_eq_true rfl⟩) hP hK hD hC hpp cw_3 rfl rfl hl.1 rfl (lv_room (Nat.le_of_ble_eq_true rfl)) dX2_goOn_171) hS hD hh hpp (fun S_123 H locs hw_124 hP hD hS hC hh hs_125 hpq => ?_)
        clear hpp
        have hpp := hpq
        clear hpq
        try dsimp only at hw_124
        have aw_126 : AW [19, 20, 21, 22] [201] S_109 S_123 := hw_124.1
        have aw_126t : AW [19, 20, 21, 22] [201] S S_123 := aw_112t.tr (aw_126.mono (by decide) (by decide))
        have ty_127 := TY.aw ty_116 aw_126 (by decide)
        obtain ⟨bg_128s, bg_128L, bg_128, bg_128e, bg_1281, bg_128o, bg_1282⟩ := hw_124.2
        refine lv_goto (tgt := 256) hx hb dX2_goOn_174 (by decide) ?_
        exact c_vret hx hb hr hK hP hD hS hC hh hpp ⟨aw_126t, ⟨bg_128s, bg_128L, bg_128, bg_128e.trans (rs2a hs2 hpr).symm, sp_bg bg_128o ⟨(by rw [bd_2 hs2]; exact hpr), hSP⟩, tg_dec (Nat.lt_of_lt_of_le (sg_117l hsp) bg_1281) bg_128.2.2.1 (len_bg bg_128o)⟩⟩ dX2_goOn_256 hlocks
  · skip
    have nc_28 : ks z t9 = 2 := (nI_eq (a := ks z t9) (b := 2) (by omega) (by omega)).mp c_28
    have hs1 : srt z t9 = 1 := hz.k1 ht nc_28
    refine lv_iload hx hb dX2_goOn_66 (lv_at hl 1 rfl) ?_
    refine lv_if_ne (tgt := 95) hx hb dX2_goOn_68 (by decide) (fun c_129 => ?_) (fun c_129 => ?_)
    · skip
      have nc_129 : ¬ p9 = 0 := fun h9 => c_129 ((nI_eq (a := p9) (b := 0) (by omega) (by omega)).mpr h9)
      refine lv_iload hx hb dX2_goOn_95 (lv_at hl 0 rfl) ?_
      refine lv_iconst (v := 2) hx hb dX2_goOn_97 (by decide) ?_
      refine lv_icmp_ne (tgt := 123) hx hb dX2_goOn_98 (by decide) (fun c_130 => absurd c_28 c_130) (fun c_130 => ?_)
      refine lv_iload hx hb dX2_goOn_101 (lv_at hl 1 rfl) ?_
      refine lv_iconst (v := 1) hx hb dX2_goOn_103 (by decide) ?_
      refine lv_icmp_ne (tgt := 123) hx hb dX2_goOn_104 (by decide) (fun c_131 => ?_) (fun c_131 => ?_)
      · skip
        have nc_131 : ¬ p9 = 1 := fun h9 => c_131 ((nI_eq (a := p9) (b := 1) (by omega) (by omega)).mpr h9)
        refine lv_iload hx hb dX2_goOn_123 (lv_at hl 0 rfl) ?_
        refine lv_iconst (v := 3) hx hb dX2_goOn_125 (by decide) ?_
        refine lv_icmp_ne (tgt := 177) hx hb dX2_goOn_126 (by decide) (fun c_132 => ?_) (fun c_132 => absurd c_132 (fun h => absurd (c_28.symm.trans h) (by decide)))
        refine lv_iload hx hb dX2_goOn_177 (lv_at hl 0 rfl) ?_
        refine lv_iconst (v := 4) hx hb dX2_goOn_179 (by decide) ?_
        refine lv_icmp_ne (tgt := 222) hx hb dX2_goOn_180 (by decide) (fun c_133 => ?_) (fun c_133 => absurd c_133 (fun h => absurd (c_28.symm.trans h) (by decide)))
        refine lv_iload hx hb dX2_goOn_222 (lv_at hl 0 rfl) ?_
        refine lv_iconst (v := 3) hx hb dX2_goOn_224 (by decide) ?_
        refine lv_icmp_ne (tgt := 237) hx hb dX2_goOn_225 (by decide) (fun c_134 => ?_) (fun c_134 => absurd c_134 (fun h => absurd (c_28.symm.trans h) (by decide)))
        refine lv_iload hx hb dX2_goOn_237 (lv_at hl 0 rfl) ?_
        refine lv_iconst (v := 4) hx hb dX2_goOn_239 (by decide) ?_
        refine lv_icmp_ne (tgt := 252) hx hb dX2_goOn_240 (by decide) (fun c_135 => ?_) (fun c_135 => absurd c_135 (fun h => absurd (c_28.symm.trans h) (by decide)))
        refine lv_aload_n hx hb dX2_goOn_252 rfl (lv_at hl 5 rfl) ?_
        have hC0 := hC
        refine c_cv (c_runV (As := []) (rest := []) (q0 := 3) (ci := 2) ⟨hx, hb, hml, hown, htu⟩ (xl_close_7 l G S_18 T V VP X Y Z z st9 L9 t9 y9 (p9 + 1) hC ty_25 ((hz.aw aw_21t (by decide))) nx_27t H) (cwV 0 htu hU_X2_59 rfl rfl rfl (by decide +kernel) ⟨Nat.le_of_ble_eq_true rfl, Nat.le_of_ble_eq_true rfl⟩) hP hK hD hC hpp cw_3 rfl rfl hl.1 rfl (lv_room (Nat.le_of_ble_eq_true rfl)) dX2_goOn_253) hS hD hh hpp (fun S_137 H locs hw_138 hP hD hS hC hh hs_139 hpq => ?_)
        clear hpp
        have hpp := hpq
        clear hpq
        try dsimp only at hw_138
        have aw_140 : AW [19, 20, 21, 22] [] S_18 S_137 := hw_138.1
        have aw_140t : AW [19, 20, 21, 22] [201] S S_137 := aw_21t.tr (aw_140.mono (by decide) (by decide))
        have ii_141 : S_137.1 201 = nI (L9.length) := (aw_140.1 201 (by decide)).trans ii_24
        have ty_142 := TY.aw ty_25 aw_140 (by decide)
        have cl_143 := hw_138.2
        exact c_vret hx hb hr hK hP hD hS hC hh hpp ⟨aw_140t, ⟨st9, L9, cl_143, (rs1c hs1 nc_129 nc_131).symm, hSP, tg_cl (Nat.le_refl _)⟩⟩ dX2_goOn_256 hlocks
      · skip
        have nc_131 : p9 = 1 := (nI_eq (a := p9) (b := 1) (by omega) (by omega)).mp c_131
        refine lv_aload_n hx hb dX2_goOn_107 rfl (lv_at hl 5 rfl) ?_
        refine lv_aload_n hx hb dX2_goOn_108 rfl (lv_at hl 5 rfl) ?_
        refine va_get (D := gD G) (ci := 2) (v := .ref (ga G 2)) (C := RX2) (T := TX2) (N := 6) hx hb htu cu_in2 hown hK hP 3 cw_3 rfl 0 (by decide) (htu _ C_128) (fun _ h9 => h9) rfl dX2_goOn_109 ?_
        refine lv_iload_n hx hb dX2_goOn_112 rfl (lv_at hl 3 rfl) ?_
        have hC0 := hC
        refine c_ci (c_runV (As := [.int (nI t9)]) (rest := [.ref (ga G 3)]) (q0 := 2) (ci := 4) ⟨hx, hb, hml, hown, htu⟩ (y_secondOf l G S_18 (nI t9) hC  H) (cwV 1 htu hU_X2_98 rfl rfl rfl (by decide +kernel) ⟨Nat.le_of_ble_eq_true rfl, Nat.le_of_ble_eq_true rfl⟩) hP hK hD hC hpp cw_2 rfl rfl hl.1 rfl (lv_room (Nat.le_of_ble_eq_true rfl)) dX2_goOn_113) hS hD hh hpp (fun r_144 S_145 H locs hw_146 hP hD hS hC hh hs_147 hpq => ?_)
        clear hpp
        have hpp := hpq
        clear hpq
        obtain ⟨-, hu9, hw_146⟩ := hw_146
        have hu9 := hu9.symm
        subst hu9
        obtain ⟨g1_, g2_, g3_, g4_⟩ := (hz.aw aw_21t (by decide)).f1 ht hs1
        obtain rfl : r_144 = nI (two z t9) := hw_146.trans g2_
        refine lv_iload_n hx hb dX2_goOn_116 rfl (lv_at hl 2 rfl) ?_
        have hC0 := hC
        refine c_cv (c_runV (As := [.int (nI (two z t9)), .int (nI y9)]) (rest := []) (q0 := 3) (ci := 2) ⟨hx, hb, hml, hown, htu⟩ (xl_begin_7 l G S_18 T V VP X Y Z z (((t9, y9, p9 + 1) :: st9)) L9 y9 (two z t9) hC ty_25 hVP (((aw_21.2.2.1 (by decide)).trans hTS)) ((hz.aw aw_21t (by decide))) nx_27t ((Or.inl hsp)) g4_ hy2 H) (cwV 2 htu hU_X2_46 rfl rfl rfl (by decide +kernel) ⟨Nat.le_of_ble_eq_true rfl, Nat.le_of_ble_eq_true rfl⟩) hP hK hD hC hpp cw_3 rfl rfl hl.1 rfl (lv_room (Nat.le_of_ble_eq_true rfl)) dX2_goOn_117) hS hD hh hpp (fun S_149 H locs hw_150 hP hD hS hC hh hs_151 hpq => ?_)
        clear hpp
        have hpp := hpq
        clear hpq
        try dsimp only at hw_150
        have aw_152 : AW [19, 20, 21, 22] [201] S_18 S_149 := hw_150.1
        have aw_152t : AW [19, 20, 21, 22] [201] S S_149 := aw_21t.tr (aw_152.mono (by decide) (by decide))
        have ty_153 := TY.aw ty_25 aw_152 (by decide)
        obtain ⟨bg_154s, bg_154L, bg_154, bg_154e, bg_1541, bg_154o, bg_1542⟩ := hw_150.2
        refine lv_goto (tgt := 256) hx hb dX2_goOn_120 (by decide) ?_
        exact c_vret hx hb hr hK hP hD hS hC hh hpp ⟨aw_152t, ⟨bg_154s, bg_154L, bg_154, bg_154e.trans (rs1b' hs1 nc_131).symm, sp_bg bg_154o ⟨(by rw [bd_1 hs1]; show p9 + 1 ≤ 2; have := nc_131; omega), hSP⟩, tg_dec (bg_1542 hsp) bg_154.2.2.1 (len_bg bg_154o)⟩⟩ dX2_goOn_256 hlocks
    · skip
      have nc_129 : p9 = 0 := (nI_eq (a := p9) (b := 0) (by omega) (by omega)).mp c_129
      refine lv_aload_n hx hb dX2_goOn_71 rfl (lv_at hl 5 rfl) ?_
      refine lv_aload_n hx hb dX2_goOn_72 rfl (lv_at hl 5 rfl) ?_
      refine va_get (D := gD G) (ci := 2) (v := .ref (ga G 2)) (C := RX2) (T := TX2) (N := 6) hx hb htu cu_in2 hown hK hP 3 cw_3 rfl 0 (by decide) (htu _ C_128) (fun _ h9 => h9) rfl dX2_goOn_73 ?_
      refine lv_iload_n hx hb dX2_goOn_76 rfl (lv_at hl 3 rfl) ?_
      have hC0 := hC
      refine c_ci (c_runV (As := [.int (nI t9)]) (rest := [.ref (ga G 3)]) (q0 := 2) (ci := 4) ⟨hx, hb, hml, hown, htu⟩ (y_firstOf l G S_18 (nI t9) hC  H) (cwV 1 htu hU_X2_95 rfl rfl rfl (by decide +kernel) ⟨Nat.le_of_ble_eq_true rfl, Nat.le_of_ble_eq_true rfl⟩) hP hK hD hC hpp cw_2 rfl rfl hl.1 rfl (lv_room (Nat.le_of_ble_eq_true rfl)) dX2_goOn_77) hS hD hh hpp (fun r_155 S_156 H locs hw_157 hP hD hS hC hh hs_158 hpq => ?_)
      clear hpp
      have hpp := hpq
      clear hpq
      obtain ⟨-, hu9, hw_157⟩ := hw_157
      have hu9 := hu9.symm
      subst hu9
      obtain ⟨g1_, g2_, g3_, g4_⟩ := (hz.aw aw_21t (by decide)).f1 ht hs1
      obtain rfl : r_155 = nI (one z t9) := hw_157.trans g1_
      refine lv_iload_n hx hb dX2_goOn_80 rfl (lv_at hl 2 rfl) ?_
      refine lv_if_ne (tgt := 88) hx hb dX2_goOn_81 (by decide) (fun c_159 => ?_) (fun c_159 => ?_)
      · skip
        have nc_159 : ¬ y9 = 0 := fun h9 => c_159 ((nI_eq (a := y9) (b := 0) (by omega) (by omega)).mpr h9)
        refine lv_iconst (v := 0) hx hb dX2_goOn_88 (by decide) ?_
        have hC0 := hC
        refine c_cv (c_runV (As := [.int (nI (one z t9)), .int 0]) (rest := []) (q0 := 3) (ci := 2) ⟨hx, hb, hml, hown, htu⟩ (xl_begin_7 l G S_18 T V VP X Y Z z (((t9, y9, p9 + 1) :: st9)) L9 0 (one z t9) hC ty_25 hVP (((aw_21.2.2.1 (by decide)).trans hTS)) ((hz.aw aw_21t (by decide))) nx_27t ((Or.inl hsp)) g3_ ((by decide)) H) (cwV 2 htu hU_X2_46 rfl rfl rfl (by decide +kernel) ⟨Nat.le_of_ble_eq_true rfl, Nat.le_of_ble_eq_true rfl⟩) hP hK hD hC hpp cw_3 rfl rfl hl.1 rfl (lv_room (Nat.le_of_ble_eq_true rfl)) dX2_goOn_89) hS hD hh hpp (fun S_161 H locs hw_162 hP hD hS hC hh hs_163 hpq => ?_)
        clear hpp
        have hpp := hpq
        clear hpq
        try dsimp only at hw_162
        have aw_164 : AW [19, 20, 21, 22] [201] S_18 S_161 := hw_162.1
        have aw_164t : AW [19, 20, 21, 22] [201] S S_161 := aw_21t.tr (aw_164.mono (by decide) (by decide))
        have ty_165 := TY.aw ty_25 aw_164 (by decide)
        obtain ⟨bg_166s, bg_166L, bg_166, bg_166e, bg_1661, bg_166o, bg_1662⟩ := hw_162.2
        refine lv_goto (tgt := 256) hx hb dX2_goOn_92 (by decide) ?_
        exact c_vret hx hb hr hK hP hD hS hC hh hpp ⟨aw_164t, ⟨bg_166s, bg_166L, bg_166, bg_166e.trans (rs1a' hs1 nc_129 (show 0 = 1 - y9 by have := nc_159; omega)).symm, sp_bg bg_166o ⟨(by rw [bd_1 hs1]; show p9 + 1 ≤ 2; have := nc_129; omega), hSP⟩, tg_dec (bg_1662 hsp) bg_166.2.2.1 (len_bg bg_166o)⟩⟩ dX2_goOn_256 hlocks
      · skip
        have nc_159 : y9 = 0 := (nI_eq (a := y9) (b := 0) (by omega) (by omega)).mp c_159
        refine lv_iconst (v := 1) hx hb dX2_goOn_84 (by decide) ?_
        refine lv_goto (tgt := 89) hx hb dX2_goOn_85 (by decide) ?_
        have hC0 := hC
        refine c_cv (c_runV (As := [.int (nI (one z t9)), .int 1]) (rest := []) (q0 := 3) (ci := 2) ⟨hx, hb, hml, hown, htu⟩ (xl_begin_7 l G S_18 T V VP X Y Z z (((t9, y9, p9 + 1) :: st9)) L9 1 (one z t9) hC ty_25 hVP (((aw_21.2.2.1 (by decide)).trans hTS)) ((hz.aw aw_21t (by decide))) nx_27t ((Or.inl hsp)) g3_ ((by decide)) H) (cwV 2 htu hU_X2_46 rfl rfl rfl (by decide +kernel) ⟨Nat.le_of_ble_eq_true rfl, Nat.le_of_ble_eq_true rfl⟩) hP hK hD hC hpp cw_3 rfl rfl hl.1 rfl (lv_room (Nat.le_of_ble_eq_true rfl)) dX2_goOn_89) hS hD hh hpp (fun S_168 H locs hw_169 hP hD hS hC hh hs_170 hpq => ?_)
        clear hpp
        have hpp := hpq
        clear hpq
        try dsimp only at hw_169
        have aw_171 : AW [19, 20, 21, 22] [201] S_18 S_168 := hw_169.1
        have aw_171t : AW [19, 20, 21, 22] [201] S S_168 := aw_21t.tr (aw_171.mono (by decide) (by decide))
        have ty_172 := TY.aw ty_25 aw_171 (by decide)
        obtain ⟨bg_173s, bg_173L, bg_173, bg_173e, bg_1731, bg_173o, bg_1732⟩ := hw_169.2
        refine lv_goto (tgt := 256) hx hb dX2_goOn_92 (by decide) ?_
        exact c_vret hx hb hr hK hP hD hS hC hh hpp ⟨aw_171t, ⟨bg_173s, bg_173L, bg_173, bg_173e.trans (rs1a' hs1 nc_129 (show 1 = 1 - y9 by have := nc_159; omega)).symm, sp_bg bg_173o ⟨(by rw [bd_1 hs1]; show p9 + 1 ≤ 2; have := nc_129; omega), hSP⟩, tg_dec (bg_1732 hsp) bg_173.2.2.1 (len_bg bg_173o)⟩⟩ dX2_goOn_256 hlocks

