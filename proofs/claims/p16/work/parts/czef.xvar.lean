set_option maxHeartbeats 4000000 in
set_option maxRecDepth 100000 in
/-- variable -/
theorem xw_variable (l : Launch) (G : cG) (S : cS) (N : Nat) (z : aS) (x : Int32) (y : Int32) (hC : CL S) (hI : CI S N) (hz : KT S z) (Hs : Heap) : Met l yX7_variable (wC yX7_variable cX7_variable 4 (some .int)) (cRm S 2 45) (cPc G S Hs [.ref (ga G 0), .int x, .int y]) (cQi G S Hs (fun v u => AW [] [] S u ∧ (u = S ∧ ((v = -1 ∧ ¬ ((∃ j, j < nV z ∧ x = nI j) ∧ ∃ w, w < 3 ∧ y = nI w)) ∨ ∃ j w, j < nV z ∧ x = nI j ∧ w < 3 ∧ y = nI w ∧ v = if w = 0 then nI (lev z (z.1 6 j)) else nI (row z (w - 1) (z.1 6 j)).length)))) (CC - PT S) (12 * (CC - PT S)) (cA G S Hs.size) := by
  refine Met.ofW (cc := cX7_variable) (maxL := 4) (ret := (some .int)) (by decide) rfl ?_
  intro p e s m args below meth c s₁ B hml hv
  obtain ⟨rfl, hsz, hP, hK, hD0, -⟩ := hv
  have hx := B.exec
  have hb := B.bytes
  have hr := B.returns
  have htu : ∀ w ∈ CU, w.before _ s = true := fun w h => atoms_spec (ws := (wC yX7_variable cX7_variable 4 (some .int))) B.pre w (List.mem_cons_of_mem _ h)
  have hown : s.vm.findClass RX7 = some m.cls := findClass_of_methodNamed B.named
  have hlocks := B.notSynchronized
  subst hsz
  have hD : cD (cA G S s.heap.size) G S := cD_self hD0
  have hl := lv_entry ([.ref (ga G 0), .int x, .int y]) (n := 4) (Nat.le_of_ble_eq_true rfl)
  rw [lg_entry_eq]
  generalize (lg_sl ([.ref (ga G 0), .int x, .int y]) ++ List.replicate (4 - (lg_sl ([.ref (ga G 0), .int x, .int y])).length) Slot.unset).toArray = ls at hl ⊢
  have hl : lv_has ls 4 [(0, .ref (ga G 0)), (1, .int x), (2, .int y)] := hl
  obtain ⟨H, hHe⟩ : ∃ H : Heap, H = s.heap := ⟨_, rfl⟩
  rw [← hHe] at hP
  have hS : va_S (cA G S s.heap.size) s.heap H [] := by rw [hHe]; exact va_S.rf
  have hh : HS S S := HS.rf
  have hpp : PT S ≤ PT S := Nat.le_refl _
  have hB9 := hC.1
  refine W.heq hHe ?_
  refine c_ent (S := S) ?_
  obtain ⟨hT, ⟨T, V, X, Y, Z, hY⟩, ⟨h15, h19, h20, h21⟩, ⟨a0, h200, a0l⟩, ⟨a1, h201, a1l⟩, ⟨a2, h202, a2l⟩⟩ := id hI
  obtain ⟨tT, tV, tB, tX⟩ := id hY.2.1
  have hN := hT.1.1
  refine lv_aload_n hx hb dX7_variable_0 rfl (lv_at hl 0 rfl) ?_
  refine va_get (D := gD G) (ci := 7) (v := .ref (ga G 4)) (C := RX7) (T := TX7) (N := 4) hx hb htu cu_in7 hown hK hP 0 cw_0 rfl 1 (by decide) (htu _ C_11) (fun _ h9 => h9) rfl dX7_variable_1 ?_
  refine va_get (D := gD G) (ci := 5) (v := .ref (ga G 2)) (C := RX5) (T := TX5) (N := 15) hx hb htu cu_in5 hown hK hP 4 cw_4 rfl 1 (by decide) (htu _ C_520) (fun _ h9 => h9) rfl dX7_variable_4 ?_
  refine lv_iload_n hx hb dX7_variable_7 rfl (lv_at hl 1 rfl) ?_
  have hC0 := hC
  refine c_ci (c_runV (As := [.int x]) (rest := []) (q0 := 2) (ci := 4) ⟨hx, hb, hml, hown, htu⟩ (y_ofVariable l G S x hC  H) (cwV 1 htu hU_X7_131 rfl rfl rfl (by decide +kernel) ⟨Nat.le_of_ble_eq_true rfl, Nat.le_of_ble_eq_true rfl⟩) hP hK hD hC hpp cw_2 rfl rfl hl.1 rfl (lv_room (Nat.le_of_ble_eq_true rfl)) dX7_variable_8) hS hD hh hpp (fun r_1 S_2 H locs hw_3 hP hD hS hC hh hs_4 hpq => ?_)
  clear hpp
  have hpp := hpq
  clear hpq
  obtain ⟨-, hu9, hw_3⟩ := hw_3
  have hu9 := hu9.symm
  subst hu9
  rcases hz.vr x with ⟨vr1, vr2⟩ | ⟨j9, vr1, vr2, vr3, vr4, vr5, vr6⟩
  · skip
    obtain rfl : r_1 = -9 := hw_3.trans vr1
    refine lv_istore_n (lv' := [(3, .int ((-9))), (0, .ref (ga G 0)), (1, .int x), (2, .int y)]) hx hb dX7_variable_11 rfl hl (by decide) rfl (fun ls hl => ?_)
    refine lv_iload_n hx hb dX7_variable_12 rfl (lv_at hl 0 rfl) ?_
    refine lv_bipush (v := (-9)) hx hb dX7_variable_13 (by decide) ?_
    refine lv_icmp_ne (tgt := 20) hx hb dX7_variable_15 (by decide) (fun c_5 => absurd (by decide) c_5) (fun c_5 => ?_)
    refine lv_iconst (v := (-1)) hx hb dX7_variable_18 (by decide) ?_
    exact c_iret (v := (-1)) hx hb hr hK hP hD hS hC hh hpp ⟨AW.rf, ⟨rfl, Or.inl ⟨rfl, fun h => vr2 h.1⟩⟩⟩ dX7_variable_19 hlocks
  · skip
    have vn6 := hz.1.2.2.2.2.2.2.2.1
    obtain rfl : r_1 = nI (z.1 6 j9) := hw_3.trans vr3
    refine lv_istore_n (lv' := [(3, .int (nI (z.1 6 j9))), (0, .ref (ga G 0)), (1, .int x), (2, .int y)]) hx hb dX7_variable_11 rfl hl (by decide) rfl (fun ls hl => ?_)
    refine lv_iload_n hx hb dX7_variable_12 rfl (lv_at hl 0 rfl) ?_
    refine lv_bipush (v := (-9)) hx hb dX7_variable_13 (by decide) ?_
    refine lv_icmp_ne (tgt := 20) hx hb dX7_variable_15 (by decide) (fun c_6 => ?_) (fun c_6 => absurd c_6 (nI_neg (by decide) (by omega)))
    refine lv_iload_n hx hb dX7_variable_20 rfl (lv_at hl 3 rfl) ?_
    rcases Decidable.em (y = 0) with c_7 | c_7
    · skip
      refine lv_tableIn (tgt := 48) hx hb dX7_variable_21 (by rw [c_7]; decide) (by rw [c_7]; decide) (by rw [c_7]; rfl) (by decide) ?_
      refine lv_aload_n hx hb dX7_variable_48 rfl (lv_at hl 1 rfl) ?_
      refine va_get (D := gD G) (ci := 7) (v := .ref (ga G 4)) (C := RX7) (T := TX7) (N := 4) hx hb htu cu_in7 hown hK hP 0 cw_0 rfl 1 (by decide) (htu _ C_11) (fun _ h9 => h9) rfl dX7_variable_49 ?_
      refine va_get (D := gD G) (ci := 5) (v := .ref (ga G 2)) (C := RX5) (T := TX5) (N := 15) hx hb htu cu_in5 hown hK hP 4 cw_4 rfl 1 (by decide) (htu _ C_520) (fun _ h9 => h9) rfl dX7_variable_52 ?_
      refine lv_iload_n hx hb dX7_variable_55 rfl (lv_at hl 0 rfl) ?_
      have hC0 := hC
      refine c_ci (c_runV (As := [.int (nI (z.1 6 j9))]) (rest := []) (q0 := 2) (ci := 4) ⟨hx, hb, hml, hown, htu⟩ (y_levelOf l G S (nI (z.1 6 j9)) hC  H) (cwV 1 htu hU_X7_136 rfl rfl rfl (by decide +kernel) ⟨Nat.le_of_ble_eq_true rfl, Nat.le_of_ble_eq_true rfl⟩) hP hK hD hC hpp cw_2 rfl rfl hl.1 rfl (lv_room (Nat.le_of_ble_eq_true rfl)) dX7_variable_56) hS hD hh hpp (fun r_8 S_9 H locs hw_10 hP hD hS hC hh hs_11 hpq => ?_)
      clear hpp
      have hpp := hpq
      clear hpq
      obtain ⟨-, hu9, hw_10⟩ := hw_10
      have hu9 := hu9.symm
      subst hu9
      obtain rfl : r_8 = nI (lev z (z.1 6 j9)) := hw_10.trans (hz.rl vr4)
      exact c_iret (v := nI (lev z (z.1 6 j9))) hx hb hr hK hP hD hS hC hh hpp ⟨AW.rf, ⟨rfl, Or.inr ⟨j9, 0, vr1, vr2, by decide, c_7, rfl⟩⟩⟩ dX7_variable_59 hlocks
    rcases Decidable.em (y = 1) with c_12 | c_12
    · skip
      refine lv_tableIn (tgt := 60) hx hb dX7_variable_21 (by rw [c_12]; decide) (by rw [c_12]; decide) (by rw [c_12]; rfl) (by decide) ?_
      refine lv_aload_n hx hb dX7_variable_60 rfl (lv_at hl 1 rfl) ?_
      refine va_get (D := gD G) (ci := 7) (v := .ref (ga G 4)) (C := RX7) (T := TX7) (N := 4) hx hb htu cu_in7 hown hK hP 0 cw_0 rfl 1 (by decide) (htu _ C_11) (fun _ h9 => h9) rfl dX7_variable_61 ?_
      refine va_get (D := gD G) (ci := 5) (v := .ref (ga G 2)) (C := RX5) (T := TX5) (N := 15) hx hb htu cu_in5 hown hK hP 4 cw_4 rfl 1 (by decide) (htu _ C_520) (fun _ h9 => h9) rfl dX7_variable_64 ?_
      refine lv_iload_n hx hb dX7_variable_67 rfl (lv_at hl 0 rfl) ?_
      refine lv_iconst (v := 0) hx hb dX7_variable_68 (by decide) ?_
      have hC0 := hC
      refine c_cr (c_runV (As := [.int (nI (z.1 6 j9)), .int 0]) (rest := []) (q0 := 2) (ci := 4) ⟨hx, hb, hml, hown, htu⟩ (y_boundsOf l G S T V V X Y Z (nI (z.1 6 j9)) 0 hC hY ((Nat.le_refl _)) ((by decide)) H) (cwV 2 htu hU_X7_139 rfl rfl rfl (by decide +kernel) ⟨Nat.le_of_ble_eq_true rfl, Nat.le_of_ble_eq_true rfl⟩) hP hK hD hC hpp cw_2 rfl rfl hl.1 rfl (lv_room (Nat.le_of_ble_eq_true rfl)) dX7_variable_69) hS hD hh hpp (fun r_13 S_14 H locs hw_15 hP hD hS hC hh hs_16 hpq => ?_)
      clear hpp
      have hpp := hpq
      clear hpq
      obtain ⟨-, hu9, hw_15⟩ := hw_15
      have hu9 := hu9.symm
      subst hu9
      obtain ⟨br_17r, br_17e, br_171⟩ := hw_15
      have br_17b := hY.2.1.2.2.1
      have br_17l : br_17r < 35 + kB S := bnd_lt br_171 br_17b (by decide)
      have br_17h : kH S br_17r = r_13 := br_17e.symm
      have vbq : br_17r = 35 + (2 * one z (z.1 6 j9) + 0) := hz.bof vr4 vr5 br_171 (by omega) (by omega)
      refine va_get (D := gD G) (ci := 0) (v := .int (nI (kK S br_17r))) (C := RX0) (T := TX0) (N := 2) hx hb htu cu_in0 hown hK hP (2 * br_17r + 13) (c_hd br_17h (cw_row br_17l)) rfl 1 (by decide) (htu _ C_521) (fun _ h9 => h9) rfl dX7_variable_72 ?_
      exact c_iret (v := nI (kK S br_17r)) hx hb hr hK hP hD hS hC hh hpp ⟨AW.rf, ⟨rfl, Or.inr ⟨j9, 1, vr1, vr2, by decide, c_12, by rw [vbq]; exact congrArg nI (hz.bn vr4 vr5 (by decide)).1⟩⟩⟩ dX7_variable_75 hlocks
    rcases Decidable.em (y = 2) with c_18 | c_18
    · skip
      refine lv_tableIn (tgt := 76) hx hb dX7_variable_21 (by rw [c_18]; decide) (by rw [c_18]; decide) (by rw [c_18]; rfl) (by decide) ?_
      refine lv_aload_n hx hb dX7_variable_76 rfl (lv_at hl 1 rfl) ?_
      refine va_get (D := gD G) (ci := 7) (v := .ref (ga G 4)) (C := RX7) (T := TX7) (N := 4) hx hb htu cu_in7 hown hK hP 0 cw_0 rfl 1 (by decide) (htu _ C_11) (fun _ h9 => h9) rfl dX7_variable_77 ?_
      refine va_get (D := gD G) (ci := 5) (v := .ref (ga G 2)) (C := RX5) (T := TX5) (N := 15) hx hb htu cu_in5 hown hK hP 4 cw_4 rfl 1 (by decide) (htu _ C_520) (fun _ h9 => h9) rfl dX7_variable_80 ?_
      refine lv_iload_n hx hb dX7_variable_83 rfl (lv_at hl 0 rfl) ?_
      refine lv_iconst (v := 1) hx hb dX7_variable_84 (by decide) ?_
      have hC0 := hC
      refine c_cr (c_runV (As := [.int (nI (z.1 6 j9)), .int 1]) (rest := []) (q0 := 2) (ci := 4) ⟨hx, hb, hml, hown, htu⟩ (y_boundsOf l G S T V V X Y Z (nI (z.1 6 j9)) 1 hC hY ((Nat.le_refl _)) ((by decide)) H) (cwV 2 htu hU_X7_139 rfl rfl rfl (by decide +kernel) ⟨Nat.le_of_ble_eq_true rfl, Nat.le_of_ble_eq_true rfl⟩) hP hK hD hC hpp cw_2 rfl rfl hl.1 rfl (lv_room (Nat.le_of_ble_eq_true rfl)) dX7_variable_85) hS hD hh hpp (fun r_19 S_20 H locs hw_21 hP hD hS hC hh hs_22 hpq => ?_)
      clear hpp
      have hpp := hpq
      clear hpq
      obtain ⟨-, hu9, hw_21⟩ := hw_21
      have hu9 := hu9.symm
      subst hu9
      obtain ⟨br_23r, br_23e, br_231⟩ := hw_21
      have br_23b := hY.2.1.2.2.1
      have br_23l : br_23r < 35 + kB S := bnd_lt br_231 br_23b (by decide)
      have br_23h : kH S br_23r = r_19 := br_23e.symm
      have vbq : br_23r = 35 + (2 * one z (z.1 6 j9) + 1) := hz.bof vr4 vr5 br_231 (by omega) (by omega)
      refine va_get (D := gD G) (ci := 0) (v := .int (nI (kK S br_23r))) (C := RX0) (T := TX0) (N := 2) hx hb htu cu_in0 hown hK hP (2 * br_23r + 13) (c_hd br_23h (cw_row br_23l)) rfl 1 (by decide) (htu _ C_521) (fun _ h9 => h9) rfl dX7_variable_88 ?_
      exact c_iret (v := nI (kK S br_23r)) hx hb hr hK hP hD hS hC hh hpp ⟨AW.rf, ⟨rfl, Or.inr ⟨j9, 2, vr1, vr2, by decide, c_18, by rw [vbq]; exact congrArg nI (hz.bn vr4 vr5 (by decide)).1⟩⟩⟩ dX7_variable_91 hlocks
    have hout : (y).toInt < 0 ∨ 2 < (y).toInt := tb_out y 0 2 (fun z h1 h2 e => by
      rcases (show z = 0 ∨ z = 1 ∨ z = 2 by omega) with rfl | rfl | rfl
      · exact c_7 (Int32.toInt_inj.mp (e.trans (by decide)))
      · exact c_12 (Int32.toInt_inj.mp (e.trans (by decide)))
      · exact c_18 (Int32.toInt_inj.mp (e.trans (by decide))))
    refine lv_tableOut (tgt := 92) hx hb dX7_variable_21 hout (by decide) ?_
    refine lv_iconst (v := (-1)) hx hb dX7_variable_92 (by decide) ?_
    have hno : ¬ ((∃ j, j < nV z ∧ x = nI j) ∧ ∃ w, w < 3 ∧ y = nI w) := fun h => by
      obtain ⟨-, w, hw3, e⟩ := h
      rcases (by omega : w = 0 ∨ w = 1 ∨ w = 2) with rfl | rfl | rfl
      · exact c_7 e
      · exact c_12 e
      · exact c_18 e
    exact c_iret (v := (-1)) hx hb hr hK hP hD hS hC hh hpp ⟨AW.rf, ⟨rfl, Or.inl ⟨rfl, hno⟩⟩⟩ dX7_variable_93 hlocks

def fcn (f : Nat → Int32) (N : Nat) : Nat := (List.range N).countP (fun j => decide (f j = -9))
