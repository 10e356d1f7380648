set_option maxHeartbeats 4000000 in
set_option maxRecDepth 100000 in
/-- clear -/
theorem xs_clear_8 (l : Launch) (G : cG) (S : cS) (hC : CL S) (Hs : Heap) : Met l yX1_clear (wC yX1_clear cX1_clear 1 none) (cRm S 0 0) (cPc G S Hs [.ref (ga G 8)]) (cQv G S Hs (fun u => AW [] [202] S u ∧ (SG u 402 []))) (CC - PT S) (12 * (CC - PT S)) (cA G S Hs.size) := by
  refine Met.ofW (cc := cX1_clear) (maxL := 1) (ret := none) (by decide) rfl ?_
  intro p e s m args below meth c s₁ B hml hv
  obtain ⟨rfl, hsz, hP, hK, hD0, -⟩ := hv
  have hx := B.exec
  have hb := B.bytes
  have hr := B.returns
  have htu : ∀ w ∈ CU, w.before _ s = true := fun w h => atoms_spec (ws := (wC yX1_clear cX1_clear 1 none)) B.pre w (List.mem_cons_of_mem _ h)
  have hown : s.vm.findClass RX1 = some m.cls := findClass_of_methodNamed B.named
  have hlocks := B.notSynchronized
  subst hsz
  have hD : cD (cA G S s.heap.size) G S := cD_self hD0
  have hl := lv_entry ([.ref (ga G 8)]) (n := 1) (Nat.le_of_ble_eq_true rfl)
  rw [lg_entry_eq]
  generalize (lg_sl ([.ref (ga G 8)]) ++ List.replicate (1 - (lg_sl ([.ref (ga G 8)])).length) Slot.unset).toArray = ls at hl ⊢
  have hl : lv_has ls 1 [(0, .ref (ga G 8))] := hl
  obtain ⟨H, hHe⟩ : ∃ H : Heap, H = s.heap := ⟨_, rfl⟩
  rw [← hHe] at hP
  have hS : va_S (cA G S s.heap.size) s.heap H [] := by rw [hHe]; exact va_S.rf
  have hh : HS S S := HS.rf
  have hpp : PT S ≤ PT S := Nat.le_refl _
  have hB9 := hC.1
  refine W.heq hHe ?_
  refine c_ent (S := S) ?_
  refine lv_aload_n hx hb dX1_clear_0 rfl (lv_at hl 0 rfl) ?_
  refine lv_iconst (v := 0) hx hb dX1_clear_1 (by decide) ?_
  refine c_put8_1 (x := 0) hx hb htu hown hK hP hD hS (htu _ C_455) dX1_clear_2 (fun H locs hP hD hS => ?_)
  have S_1h : HS S (cO S 202 0) := hh
  have S_1c : CL (cO S 202 0) := hC
  have S_1p : PT S ≤ PT (cO S 202 0) := hpp
  refine c_eq (S1 := S) (S2 := cO S 202 0) rfl ?_
  have S_1w : AW [] [202] S (cO S 202 0) := (AW.o AW.rf (by decide))
  have hh := S_1h
  have hC := S_1c
  have hpp := S_1p
  exact c_vret hx hb hr hK hP hD hS hC hh hpp ⟨S_1w, ⟨cO_s, fun j hj => absurd hj (Nat.not_lt_zero _)⟩⟩ dX1_clear_5 hlocks

set_option maxHeartbeats 4000000 in
set_option maxRecDepth 100000 in
/-- put -/
theorem xs_put_8 (l : Launch) (G : cG) (S : cS) (L9 : List Int32) (y : Int32) (hC : CL S) (hS9 : SG S 402 L9) (hcap : L9.length ≤ 200) (Hs : Heap) : Met l yX1_put (wC yX1_put cX1_put 2 none) (cRm S 0 0) (cPc G S Hs [.ref (ga G 8), .int y]) (cQv G S Hs (fun u => AW [] [202] S u ∧ (SG u 402 (lput 200 L9 (b8 y))))) (CC - PT S) (12 * (CC - PT S)) (cA G S Hs.size) := by
  refine Met.ofW (cc := cX1_put) (maxL := 2) (ret := none) (by decide) rfl ?_
  intro p e s m args below meth c s₁ B hml hv
  obtain ⟨rfl, hsz, hP, hK, hD0, -⟩ := hv
  have hx := B.exec
  have hb := B.bytes
  have hr := B.returns
  have htu : ∀ w ∈ CU, w.before _ s = true := fun w h => atoms_spec (ws := (wC yX1_put cX1_put 2 none)) B.pre w (List.mem_cons_of_mem _ h)
  have hown : s.vm.findClass RX1 = some m.cls := findClass_of_methodNamed B.named
  have hlocks := B.notSynchronized
  subst hsz
  have hD : cD (cA G S s.heap.size) G S := cD_self hD0
  have hl := lv_entry ([.ref (ga G 8), .int y]) (n := 2) (Nat.le_of_ble_eq_true rfl)
  rw [lg_entry_eq]
  generalize (lg_sl ([.ref (ga G 8), .int y]) ++ List.replicate (2 - (lg_sl ([.ref (ga G 8), .int y])).length) Slot.unset).toArray = ls at hl ⊢
  have hl : lv_has ls 2 [(0, .ref (ga G 8)), (1, .int y)] := hl
  obtain ⟨H, hHe⟩ : ∃ H : Heap, H = s.heap := ⟨_, rfl⟩
  rw [← hHe] at hP
  have hS : va_S (cA G S s.heap.size) s.heap H [] := by rw [hHe]; exact va_S.rf
  have hh : HS S S := HS.rf
  have hpp : PT S ≤ PT S := Nat.le_refl _
  have hB9 := hC.1
  refine W.heq hHe ?_
  refine c_ent (S := S) ?_
  refine lv_aload_n hx hb dX1_put_0 rfl (lv_at hl 0 rfl) ?_
  refine va_get (D := gD G) (ci := 1) (v := .int (nI (L9.length))) (C := RX1) (T := TX1) (N := 2) hx hb htu cu_in1 hown hK hP 8 cw_8 rfl 1 (by decide) (htu _ C_455) (fun _ h9 => h9) (m_v hS9.1) dX1_put_1 ?_
  refine lv_aload_n hx hb dX1_put_4 rfl (lv_at hl 0 rfl) ?_
  refine va_get (D := gD G) (ci := 1) (v := .ref (ga G 11)) (C := RX1) (T := TX1) (N := 2) hx hb htu cu_in1 hown hK hP 8 cw_8 rfl 0 (by decide) (htu _ C_142) (fun _ h9 => h9) rfl dX1_put_5 ?_
  refine va_alen hx hb hK hP 11 1 cw_11 rfl (v := 200) rfl dX1_put_8 ?_
  refine lv_icmp_lt (tgt := 13) hx hb dX1_put_9 (by decide) (fun c_1 => ?_) (fun c_1 => ?_)
  · skip
    have nc_1 : L9.length < 200 := (nI_ltI (a := L9.length) (b := 200) (by omega) (by omega)).mp c_1
    refine lv_aload_n hx hb dX1_put_13 rfl (lv_at hl 0 rfl) ?_
    refine va_get (D := gD G) (ci := 1) (v := .ref (ga G 11)) (C := RX1) (T := TX1) (N := 2) hx hb htu cu_in1 hown hK hP 8 cw_8 rfl 0 (by decide) (htu _ C_142) (fun _ h9 => h9) rfl dX1_put_14 ?_
    refine lv_aload_n hx hb dX1_put_17 rfl (lv_at hl 0 rfl) ?_
    refine va_get (D := gD G) (ci := 1) (v := .int (nI (L9.length))) (C := RX1) (T := TX1) (N := 2) hx hb htu cu_in1 hown hK hP 8 cw_8 rfl 1 (by decide) (htu _ C_455) (fun _ h9 => h9) (m_v hS9.1) dX1_put_18 ?_
    refine lv_iload_n hx hb dX1_put_21 rfl (lv_at hl 1 rfl) ?_
    refine lv_i2b hx hb dX1_put_22 (v := _) rfl ?_
    refine lv_topi (fun f_2 ef_2 => ?_)
    refine c_bst11 (x := f_2) (j := L9.length) hx hb hK hP hD hS (hC.1) (by omega) dX1_put_23 (fun H locs hP hD hS => ?_)
    have S_3h : HS S (cY S 402 (upd (kF S 402) L9.length (vp_nar .byte f_2))) := hh
    have S_3c : CL (cY S 402 (upd (kF S 402) L9.length (vp_nar .byte f_2))) := hC
    have S_3p : PT S ≤ PT (cY S 402 (upd (kF S 402) L9.length (vp_nar .byte f_2))) := hpp
    refine c_eq (S1 := S) (S2 := cY S 402 (upd (kF S 402) L9.length (vp_nar .byte f_2))) rfl ?_
    have S_3w : AW [] [202] S (cY S 402 (upd (kF S 402) L9.length (vp_nar .byte f_2))) := (AW.y AW.rf hC.1 (by decide) (by decide))
    have hh := S_3h
    have hC := S_3c
    have hpp := S_3p
    refine lv_aload_n hx hb dX1_put_24 rfl (lv_at hl 0 rfl) ?_
    refine lv_dup hx hb dX1_put_25 rfl ?_
    refine va_get (D := gD G) (ci := 1) (v := .int (nI (L9.length))) (C := RX1) (T := TX1) (N := 2) hx hb htu cu_in1 hown hK hP 8 cw_8 rfl 1 (by decide) (htu _ C_455) (fun _ h9 => h9) (m_v hS9.1) dX1_put_26 ?_
    refine lv_iconst (v := 1) hx hb dX1_put_29 (by decide) ?_
    refine lv_iadd hx hb dX1_put_30 ?_
    refine m_top (y := nI (L9.length + 1)) (nI_add L9.length 1) ?_
    refine c_put8_1 (x := (nI (L9.length + 1))) hx hb htu hown hK hP hD hS (htu _ C_455) dX1_put_31 (fun H locs hP hD hS => ?_)
    have S_4h : HS S (cO (cY S 402 (upd (kF S 402) L9.length (vp_nar .byte f_2))) 202 (nI (L9.length + 1))) := hh
    have S_4c : CL (cO (cY S 402 (upd (kF S 402) L9.length (vp_nar .byte f_2))) 202 (nI (L9.length + 1))) := hC
    have S_4p : PT S ≤ PT (cO (cY S 402 (upd (kF S 402) L9.length (vp_nar .byte f_2))) 202 (nI (L9.length + 1))) := hpp
    refine c_eq (S1 := (cY S 402 (upd (kF S 402) L9.length (vp_nar .byte f_2)))) (S2 := cO (cY S 402 (upd (kF S 402) L9.length (vp_nar .byte f_2))) 202 (nI (L9.length + 1))) rfl ?_
    have S_4w : AW [] [202] S (cO (cY S 402 (upd (kF S 402) L9.length (vp_nar .byte f_2))) 202 (nI (L9.length + 1))) := (AW.o S_3w (by decide))
    have hh := S_4h
    have hC := S_4c
    have hpp := S_4p
    exact c_vret hx hb hr hK hP hD hS hC hh hpp ⟨S_4w, (by rw [lput_lt nc_1, show b8 y = vp_nar .byte f_2 from (congrArg (vp_nar .byte) ef_2).symm]; exact SG.put hS9 cO_s cY_F)⟩ dX1_put_34 hlocks
  · skip
    have nc_1 : ¬ L9.length < 200 := fun h9 => c_1 ((nI_ltI (a := L9.length) (b := 200) (by omega) (by omega)).mpr h9)
    exact c_vret hx hb hr hK hP hD hS hC hh hpp ⟨AW.rf, (by rw [lput_full nc_1]; exact hS9)⟩ dX1_put_12 hlocks

set_option maxHeartbeats 4000000 in
set_option maxRecDepth 100000 in
/-- putLetter -/
theorem xs_putLetter_8 (l : Launch) (G : cG) (S : cS) (L9 : List Int32) (y : Int32) (hC : CL S) (hS9 : SG S 402 L9) (hcap : L9.length ≤ 200) (Hs : Heap) : Met l yX1_putLetter (wC yX1_putLetter cX1_putLetter 2 none) (cRm S 1 21) (cPc G S Hs [.ref (ga G 8), .int y]) (cQv G S Hs (fun u => AW [] [202] S u ∧ (SG u 402 (lput 200 L9 (b8 (i2c9 (97 + y))))))) (CC - PT S) (12 * (CC - PT S)) (cA G S Hs.size) := by
  refine Met.ofW (cc := cX1_putLetter) (maxL := 2) (ret := none) (by decide) rfl ?_
  intro p e s m args below meth c s₁ B hml hv
  obtain ⟨rfl, hsz, hP, hK, hD0, -⟩ := hv
  have hx := B.exec
  have hb := B.bytes
  have hr := B.returns
  have htu : ∀ w ∈ CU, w.before _ s = true := fun w h => atoms_spec (ws := (wC yX1_putLetter cX1_putLetter 2 none)) B.pre w (List.mem_cons_of_mem _ h)
  have hown : s.vm.findClass RX1 = some m.cls := findClass_of_methodNamed B.named
  have hlocks := B.notSynchronized
  subst hsz
  have hD : cD (cA G S s.heap.size) G S := cD_self hD0
  have hl := lv_entry ([.ref (ga G 8), .int y]) (n := 2) (Nat.le_of_ble_eq_true rfl)
  rw [lg_entry_eq]
  generalize (lg_sl ([.ref (ga G 8), .int y]) ++ List.replicate (2 - (lg_sl ([.ref (ga G 8), .int y])).length) Slot.unset).toArray = ls at hl ⊢
  have hl : lv_has ls 2 [(0, .ref (ga G 8)), (1, .int y)] := hl
  obtain ⟨H, hHe⟩ : ∃ H : Heap, H = s.heap := ⟨_, rfl⟩
  rw [← hHe] at hP
  have hS : va_S (cA G S s.heap.size) s.heap H [] := by rw [hHe]; exact va_S.rf
  have hh : HS S S := HS.rf
  have hpp : PT S ≤ PT S := Nat.le_refl _
  have hB9 := hC.1
  refine W.heq hHe ?_
  refine c_ent (S := S) ?_
  refine lv_aload_n hx hb dX1_putLetter_0 rfl (lv_at hl 0 rfl) ?_
  refine lv_bipush (v := 97) hx hb dX1_putLetter_1 (by decide) ?_
  refine lv_iload_n hx hb dX1_putLetter_3 rfl (lv_at hl 1 rfl) ?_
  refine lv_iadd hx hb dX1_putLetter_4 ?_
  refine lv_topi (fun f_1 ef_1 => ?_)
  refine lv_i2c hx hb dX1_putLetter_5 (v := _) rfl ?_
  refine lv_topi (fun f_2 ef_2 => ?_)
  have hC0 := hC
  refine c_cv (c_runV (As := [.int f_2]) (rest := []) (q0 := 8) (ci := 1) ⟨hx, hb, hml, hown, htu⟩ (xs_put_8 l G S L9 f_2 hC hS9 hcap H) (cwV 1 htu hU_X1_25 rfl rfl rfl (by decide +kernel) ⟨Nat.le_of_ble_eq_true rfl, Nat.le_of_ble_eq_true rfl⟩) hP hK hD hC hpp cw_8 rfl rfl hl.1 rfl (lv_room (Nat.le_of_ble_eq_true rfl)) dX1_putLetter_6) hS hD hh hpp (fun S_4 H locs hw_5 hP hD hS hC hh hs_6 hpp => ?_)
  try dsimp only at hw_5
  have aw_7 : AW [] [202] S S_4 := hw_5.1
  have aw_7t : AW [] [202] S S_4 := AW.rf.tr (aw_7.mono (by decide) (by decide))
  have sg_8h : SG S_4 402 (lput 200 L9 (b8 f_2)) := hw_5.2
  have sg_8c : (lput 200 L9 (b8 f_2)).length ≤ 200 := (lput_len hcap).1
  exact c_vret hx hb hr hK hP hD hS hC hh hpp ⟨aw_7t, (by rw [show i2c9 (97 + y) = f_2 from (ef_2.trans (congrArg i2c9 ef_1)).symm]; exact sg_8h)⟩ dX1_putLetter_9 hlocks

set_option maxHeartbeats 4000000 in
set_option maxRecDepth 100000 in
/-- putFigures -/
theorem xs_putFigures_8 (l : Launch) (G : cG) (S : cS) (L9 : List Int32) (y : Int32) (hC : CL S) (hS9 : SG S 402 L9) (hcap : L9.length ≤ 200) (Hs : Heap) : Met l yX1_putFigures (wC yX1_putFigures cX1_putFigures 9 none) (cRm S 1 21) (cPc G S Hs [.ref (ga G 8), .int y]) (cQv G S Hs (fun u => AW [] [202] S u ∧ (SG u 402 (lputs 200 L9 (figs y))))) (CC - PT S) (12 * (CC - PT S)) (cA G S Hs.size) := by
  refine Met.ofW (cc := cX1_putFigures) (maxL := 9) (ret := none) (by decide) rfl ?_
  intro p e s m args below meth c s₁ B hml hv
  obtain ⟨rfl, hsz, hP, hK, hD0, -⟩ := hv
  have hx := B.exec
  have hb := B.bytes
  have hr := B.returns
  have htu : ∀ w ∈ CU, w.before _ s = true := fun w h => atoms_spec (ws := (wC yX1_putFigures cX1_putFigures 9 none)) B.pre w (List.mem_cons_of_mem _ h)
  have hown : s.vm.findClass RX1 = some m.cls := findClass_of_methodNamed B.named
  have hlocks := B.notSynchronized
  subst hsz
  have hD : cD (cA G S s.heap.size) G S := cD_self hD0
  have hl := lv_entry ([.ref (ga G 8), .int y]) (n := 9) (Nat.le_of_ble_eq_true rfl)
  rw [lg_entry_eq]
  generalize (lg_sl ([.ref (ga G 8), .int y]) ++ List.replicate (9 - (lg_sl ([.ref (ga G 8), .int y])).length) Slot.unset).toArray = ls at hl ⊢
  have hl : lv_has ls 9 [(0, .ref (ga G 8)), (1, .int y)] := hl
  obtain ⟨H, hHe⟩ : ∃ H : Heap, H = s.heap := ⟨_, rfl⟩
  rw [← hHe] at hP
  have hS : va_S (cA G S s.heap.size) s.heap H [] := by rw [hHe]; exact va_S.rf
  have hh : HS S S := HS.rf
  have hpp : PT S ≤ PT S := Nat.le_refl _
  have hB9 := hC.1
  refine W.heq hHe ?_
  refine c_ent (S := S) ?_
  refine lv_iload_n hx hb dX1_putFigures_0 rfl (lv_at hl 1 rfl) ?_
  refine lv_i2l hx hb dX1_putFigures_1 (v := _) rfl ?_
  refine lv_topl (fun f_1 ef_1 => ?_)
  refine lv_lstore_n (lv' := [(2, .long f_1), (0, .ref (ga G 8)), (1, .int y)]) hx hb dX1_putFigures_2 rfl hl (by decide) rfl (fun ls hl => ?_)
  refine lv_lload_n hx hb dX1_putFigures_3 rfl (lv_at hl 0 rfl) ?_
  refine lv_lconst (v := 0) hx hb dX1_putFigures_4 (by decide) ?_
  refine W.lcmp hx hb dX1_putFigures_5 ?_
  refine lv_topi (fun f_2 ef_2 => ?_)
  refine lv_if_ge (tgt := 18) hx hb dX1_putFigures_6 (by decide) (fun c_3 => ?_) (fun c_3 => ?_)
  · skip
    refine lv_iconst (v := 0) hx hb dX1_putFigures_18 (by decide) ?_
    refine lv_istore (lv' := [(4, .int 0), (2, .long f_1), (0, .ref (ga G 8)), (1, .int y)]) hx hb dX1_putFigures_19 hl (by decide) rfl (fun ls hl => ?_)
    refine lv_ldc2 (v := 1000000000) hx hb hown (htu _ C_476) dX1_putFigures_21 ?_
    refine lv_lstore (lv' := [(5, .long 1000000000), (4, .int 0), (2, .long f_1), (0, .ref (ga G 8)), (1, .int y)]) hx hb dX1_putFigures_24 hl (by decide) rfl (fun ls hl => ?_)
    have hneg : ¬ y < 0 := cmp_0.mp (by simp only [*] at *; assumption)
    obtain ⟨rr, hrr⟩ : ∃ rr : Int64, rr = f_1 := ⟨_, rfl⟩
    have hrt : (f_1).toInt = (mag y : Int) := by simp only [*] at *; exact pos_rest hneg
    refine w_loop (fun j H locs k sl g => ∃ (S1 : cS) (bg : Int32) (i : Nat) (Lq : List Int32) (ls : Array Slot), CL S1 ∧ HS S S1 ∧ PT S ≤ PT S1 ∧ AW [] [202] S S1 ∧ i + j = 10 ∧ SG S1 402 Lq ∧ Lq.length ≤ 200 ∧ lputs 200 Lq (fd (mag y) j i (decide (bg ≠ 0))) = lputs 200 L9 (figs y) ∧ (bg = 0 ∨ bg = 1) ∧ k = PT S1 - PT S ∧ sl = 12 * (PT S1 - PT S) ∧ cP G S1 H ∧ cD (cA G S s.heap.size) G S1 ∧ va_S (cA G S s.heap.size) s.heap H locs ∧ lv_has ls 9 [(0, .ref (ga G 8)), (1, .int y), (2, .long f_1), (4, .int bg), (5, .long ((pv i)))] ∧ g = F0 m 26 ls []) ?_ ?_ 10 _ _ _ _ _ ⟨S, 0, 0, L9, ls, hC, hh, hpp, AW.rf, by omega, hS9, hcap, (figs_p hneg), (Or.inl rfl), rfl, rfl, hP, hD, hS, lv_sub hl [3, 4, 2, 1, 0] rfl, rfl⟩
    · intro H locs k sl g hI
      obtain ⟨S1, bg, i, Lq, ls, hC, hh, hpp, hAW, hp0, hp1, hp2, hp3, hp4, rfl, rfl, hP, hD, hS, hl, rfl⟩ := hI
      refine lv_lload hx hb dX1_putFigures_26 (lv_at hl 4 rfl) ?_
      refine lv_lconst (v := 1) hx hb dX1_putFigures_28 (by decide) ?_
      refine W.lcmp hx hb dX1_putFigures_29 ?_
      refine lv_topi (fun f_4 ef_4 => ?_)
      refine lv_if_lt (tgt := 97) hx hb dX1_putFigures_30 (by decide) (fun c_5 => ?_) (fun c_5 => absurd (by rw [ef_4, show i = 10 by omega]; exact pv_10) c_5)
      exact c_vret hx hb hr hK hP hD hS hC hh hpp ⟨hAW, (hp3 ▸ hp1)⟩ dX1_putFigures_97 hlocks
    · intro j ih9 H locs k sl g hI
      obtain ⟨S1, bg, i, Lq, ls, hC, hh, hpp, hAW, hp0, hp1, hp2, hp3, hp4, rfl, rfl, hP, hD, hS, hl, rfl⟩ := hI
      refine lv_lload hx hb dX1_putFigures_26 (lv_at hl 4 rfl) ?_
      refine lv_lconst (v := 1) hx hb dX1_putFigures_28 (by decide) ?_
      refine W.lcmp hx hb dX1_putFigures_29 ?_
      refine lv_topi (fun f_6 ef_6 => ?_)
      refine lv_if_lt (tgt := 97) hx hb dX1_putFigures_30 (by decide) (fun c_7 => absurd c_7 (by rw [ef_6]; exact pv_ge i (by omega))) (fun c_7 => ?_)
      refine lv_lload_n hx hb dX1_putFigures_33 rfl (lv_at hl 2 rfl) ?_
      refine lv_lload hx hb dX1_putFigures_34 (lv_at hl 4 rfl) ?_
      refine lv_ldiv hx hb dX1_putFigures_36 (pv_nz i (by omega)) ?_
      refine lv_topl (fun f_8 ef_8 => ?_)
      refine lv_ldc2 (v := 10) hx hb hown (htu _ C_477) dX1_putFigures_37 ?_
      refine lv_lrem hx hb dX1_putFigures_40 (by decide) ?_
      refine lv_topl (fun f_9 ef_9 => ?_)
      refine lv_lstore (lv' := [(7, .long f_9), (0, .ref (ga G 8)), (1, .int y), (2, .long f_1), (4, .int bg), (5, .long ((pv i)))]) hx hb dX1_putFigures_41 hl (by decide) rfl (fun ls hl => ?_)
      refine lv_iload hx hb dX1_putFigures_43 (lv_at hl 4 rfl) ?_
      refine lv_if_ne (tgt := 62) hx hb dX1_putFigures_45 (by decide) (fun c_10 => ?_) (fun c_10 => ?_)
      · skip
        refine lv_iconst (v := 1) hx hb dX1_putFigures_62 (by decide) ?_
        refine lv_goto (tgt := 67) hx hb dX1_putFigures_63 (by decide) ?_
        refine lv_istore (lv' := [(4, .int 1), (7, .long f_9), (0, .ref (ga G 8)), (1, .int y), (2, .long f_1), (5, .long ((pv i)))]) hx hb dX1_putFigures_67 hl (by decide) rfl (fun ls hl => ?_)
        refine lv_iload hx hb dX1_putFigures_69 (lv_at hl 0 rfl) ?_
        refine lv_if_eq (tgt := 86) hx hb dX1_putFigures_71 (by decide) (fun c_11 => absurd c_11 (by decide)) (fun c_11 => ?_)
        refine lv_aload_n hx hb dX1_putFigures_74 rfl (lv_at hl 2 rfl) ?_
        refine lv_ldc2 (v := 48) hx hb hown (htu _ C_478) dX1_putFigures_75 ?_
        refine lv_lload hx hb dX1_putFigures_78 (lv_at hl 1 rfl) ?_
        refine lv_ladd hx hb dX1_putFigures_80 ?_
        refine lv_topl (fun f_12 ef_12 => ?_)
        refine lv_l2i hx hb dX1_putFigures_81 (v := _) rfl ?_
        refine lv_topi (fun f_13 ef_13 => ?_)
        refine lv_i2c hx hb dX1_putFigures_82 (v := _) rfl ?_
        refine lv_topi (fun f_14 ef_14 => ?_)
        have hC0 := hC
        refine c_cv (c_runV (As := [.int f_14]) (rest := []) (q0 := 8) (ci := 1) ⟨hx, hb, hml, hown, htu⟩ (xs_put_8 l G S1 Lq f_14 hC hp1 hp2 H) (cwV 1 htu hU_X1_25 rfl rfl rfl (by decide +kernel) ⟨Nat.le_of_ble_eq_true rfl, Nat.le_of_ble_eq_true rfl⟩) hP hK hD hC hpp cw_8 rfl rfl hl.1 rfl (lv_room (Nat.le_of_ble_eq_true rfl)) dX1_putFigures_83) hS hD hh hpp (fun S_16 H locs hw_17 hP hD hS hC hh hs_18 hpp => ?_)
        try dsimp only at hw_17
        have aw_19 : AW [] [202] S1 S_16 := hw_17.1
        have aw_19t : AW [] [202] S S_16 := hAW.tr (aw_19.mono (by decide) (by decide))
        have sg_20h : SG S_16 402 (lput 200 Lq (b8 f_14)) := hw_17.2
        have sg_20c : (lput 200 Lq (b8 f_14)).length ≤ 200 := (lput_len hp2).1
        refine lv_lload hx hb dX1_putFigures_86 (lv_at hl 5 rfl) ?_
        refine lv_ldc2 (v := 10) hx hb hown (htu _ C_477) dX1_putFigures_88 ?_
        refine lv_ldiv hx hb dX1_putFigures_91 (by decide) ?_
        rw [pv_div i (by omega)]
        refine lv_lstore (lv' := [(5, .long ((pv (i + 1)))), (4, .int 1), (7, .long f_9), (0, .ref (ga G 8)), (1, .int y), (2, .long f_1)]) hx hb dX1_putFigures_92 hl (by decide) rfl (fun ls hl => ?_)
        refine lv_goto (tgt := 26) hx hb dX1_putFigures_94 (by decide) ?_
        have q_21d : (mag y / 10 ^ (9 - i) % 10) < 10 := Nat.mod_lt _ (by decide)
        have q_21f : f_9 = Int64.ofNat (mag y / 10 ^ (9 - i) % 10) := ef_9.trans (by rw [ef_8]; exact fig_at2 hrt mag_le (show i < 10 by omega))
        exact ih9 _ _ _ _ _ ⟨S_16, 1, i + 1, (lput 200 Lq (b8 f_14)), ls, hC, hh, hpp, aw_19t, by omega, sg_20h, sg_20c, (fig_t hp3 (Or.inl (decide_eq_true c_10)) (by rw [ef_14, ef_13, ef_12, q_21f]; exact i2c_fig _ q_21d)), (Or.inr rfl), rfl, rfl, hP, hD, hS, lv_sub hl [3, 4, 5, 1, 0] rfl, rfl⟩
      · skip
        refine lv_lload hx hb dX1_putFigures_48 (lv_at hl 0 rfl) ?_
        refine lv_lconst (v := 0) hx hb dX1_putFigures_50 (by decide) ?_
        refine W.lcmp hx hb dX1_putFigures_51 ?_
        refine lv_topi (fun f_22 ef_22 => ?_)
        refine lv_if_ne (tgt := 62) hx hb dX1_putFigures_52 (by decide) (fun c_23 => ?_) (fun c_23 => ?_)
        · skip
          refine lv_iconst (v := 1) hx hb dX1_putFigures_62 (by decide) ?_
          refine lv_goto (tgt := 67) hx hb dX1_putFigures_63 (by decide) ?_
          refine lv_istore (lv' := [(4, .int 1), (7, .long f_9), (0, .ref (ga G 8)), (1, .int y), (2, .long f_1), (5, .long ((pv i)))]) hx hb dX1_putFigures_67 hl (by decide) rfl (fun ls hl => ?_)
          refine lv_iload hx hb dX1_putFigures_69 (lv_at hl 0 rfl) ?_
          refine lv_if_eq (tgt := 86) hx hb dX1_putFigures_71 (by decide) (fun c_24 => absurd c_24 (by decide)) (fun c_24 => ?_)
          refine lv_aload_n hx hb dX1_putFigures_74 rfl (lv_at hl 2 rfl) ?_
          refine lv_ldc2 (v := 48) hx hb hown (htu _ C_478) dX1_putFigures_75 ?_
          refine lv_lload hx hb dX1_putFigures_78 (lv_at hl 1 rfl) ?_
          refine lv_ladd hx hb dX1_putFigures_80 ?_
          refine lv_topl (fun f_25 ef_25 => ?_)
          refine lv_l2i hx hb dX1_putFigures_81 (v := _) rfl ?_
          refine lv_topi (fun f_26 ef_26 => ?_)
          refine lv_i2c hx hb dX1_putFigures_82 (v := _) rfl ?_
          refine lv_topi (fun f_27 ef_27 => ?_)
          have hC0 := hC
          refine c_cv (c_runV (As := [.int f_27]) (rest := []) (q0 := 8) (ci := 1) ⟨hx, hb, hml, hown, htu⟩ (xs_put_8 l G S1 Lq f_27 hC hp1 hp2 H) (cwV 1 htu hU_X1_25 rfl rfl rfl (by decide +kernel) ⟨Nat.le_of_ble_eq_true rfl, Nat.le_of_ble_eq_true rfl⟩) hP hK hD hC hpp cw_8 rfl rfl hl.1 rfl (lv_room (Nat.le_of_ble_eq_true rfl)) dX1_putFigures_83) hS hD hh hpp (fun S_29 H locs hw_30 hP hD hS hC hh hs_31 hpp => ?_)
          try dsimp only at hw_30
          have aw_32 : AW [] [202] S1 S_29 := hw_30.1
          have aw_32t : AW [] [202] S S_29 := hAW.tr (aw_32.mono (by decide) (by decide))
          have sg_33h : SG S_29 402 (lput 200 Lq (b8 f_27)) := hw_30.2
          have sg_33c : (lput 200 Lq (b8 f_27)).length ≤ 200 := (lput_len hp2).1
          refine lv_lload hx hb dX1_putFigures_86 (lv_at hl 5 rfl) ?_
          refine lv_ldc2 (v := 10) hx hb hown (htu _ C_477) dX1_putFigures_88 ?_
          refine lv_ldiv hx hb dX1_putFigures_91 (by decide) ?_
          rw [pv_div i (by omega)]
          refine lv_lstore (lv' := [(5, .long ((pv (i + 1)))), (4, .int 1), (7, .long f_9), (0, .ref (ga G 8)), (1, .int y), (2, .long f_1)]) hx hb dX1_putFigures_92 hl (by decide) rfl (fun ls hl => ?_)
          refine lv_goto (tgt := 26) hx hb dX1_putFigures_94 (by decide) ?_
          have q_34d : (mag y / 10 ^ (9 - i) % 10) < 10 := Nat.mod_lt _ (by decide)
          have q_34f : f_9 = Int64.ofNat (mag y / 10 ^ (9 - i) % 10) := ef_9.trans (by rw [ef_8]; exact fig_at2 hrt mag_le (show i < 10 by omega))
          exact ih9 _ _ _ _ _ ⟨S_29, 1, i + 1, (lput 200 Lq (b8 f_27)), ls, hC, hh, hpp, aw_32t, by omega, sg_33h, sg_33c, (fig_t hp3 (Or.inr (Or.inl (fun z => c_23 (by rw [ef_22, q_34f, z]; rfl)))) (by rw [ef_27, ef_26, ef_25, q_34f]; exact i2c_fig _ q_34d)), (Or.inr rfl), rfl, rfl, hP, hD, hS, lv_sub hl [3, 4, 5, 1, 0] rfl, rfl⟩
        · skip
          refine lv_lload hx hb dX1_putFigures_55 (lv_at hl 5 rfl) ?_
          refine lv_lconst (v := 1) hx hb dX1_putFigures_57 (by decide) ?_
          refine W.lcmp hx hb dX1_putFigures_58 ?_
          refine lv_topi (fun f_35 ef_35 => ?_)
          refine lv_if_ne (tgt := 66) hx hb dX1_putFigures_59 (by decide) (fun c_36 => ?_) (fun c_36 => ?_)
          · skip
            refine lv_iconst (v := 0) hx hb dX1_putFigures_66 (by decide) ?_
            refine lv_istore (lv' := [(4, .int 0), (7, .long f_9), (0, .ref (ga G 8)), (1, .int y), (2, .long f_1), (5, .long ((pv i)))]) hx hb dX1_putFigures_67 hl (by decide) rfl (fun ls hl => ?_)
            refine lv_iload hx hb dX1_putFigures_69 (lv_at hl 0 rfl) ?_
            refine lv_if_eq (tgt := 86) hx hb dX1_putFigures_71 (by decide) (fun c_37 => ?_) (fun c_37 => absurd (by decide) c_37)
            refine lv_lload hx hb dX1_putFigures_86 (lv_at hl 5 rfl) ?_
            refine lv_ldc2 (v := 10) hx hb hown (htu _ C_477) dX1_putFigures_88 ?_
            refine lv_ldiv hx hb dX1_putFigures_91 (by decide) ?_
            rw [pv_div i (by omega)]
            refine lv_lstore (lv' := [(5, .long ((pv (i + 1)))), (4, .int 0), (7, .long f_9), (0, .ref (ga G 8)), (1, .int y), (2, .long f_1)]) hx hb dX1_putFigures_92 hl (by decide) rfl (fun ls hl => ?_)
            refine lv_goto (tgt := 26) hx hb dX1_putFigures_94 (by decide) ?_
            have q_38d : (mag y / 10 ^ (9 - i) % 10) < 10 := Nat.mod_lt _ (by decide)
            have q_38f : f_9 = Int64.ofNat (mag y / 10 ^ (9 - i) % 10) := ef_9.trans (by rw [ef_8]; exact fig_at2 hrt mag_le (show i < 10 by omega))
            exact ih9 _ _ _ _ _ ⟨S1, 0, i + 1, Lq, ls, hC, hh, hpp, hAW, by omega, hp1, hp2, (fig_f hp3 (fun z => z.elim (fun z => of_decide_eq_true z c_10) (fun z => z.elim (fun z => z ((of_0 q_38d).mp (q_38f.symm.trans (lg0.mp (ef_22.symm.trans c_23))))) (fun z => c_36 (ef_35.trans (lg0.mpr ((pv_one i (by omega)).mpr z))))))), (Or.inl rfl), rfl, rfl, hP, hD, hS, lv_sub hl [3, 4, 5, 1, 0] rfl, rfl⟩
          · skip
            refine lv_iconst (v := 1) hx hb dX1_putFigures_62 (by decide) ?_
            refine lv_goto (tgt := 67) hx hb dX1_putFigures_63 (by decide) ?_
            refine lv_istore (lv' := [(4, .int 1), (7, .long f_9), (0, .ref (ga G 8)), (1, .int y), (2, .long f_1), (5, .long ((pv i)))]) hx hb dX1_putFigures_67 hl (by decide) rfl (fun ls hl => ?_)
            refine lv_iload hx hb dX1_putFigures_69 (lv_at hl 0 rfl) ?_
            refine lv_if_eq (tgt := 86) hx hb dX1_putFigures_71 (by decide) (fun c_39 => absurd c_39 (by decide)) (fun c_39 => ?_)
            refine lv_aload_n hx hb dX1_putFigures_74 rfl (lv_at hl 2 rfl) ?_
            refine lv_ldc2 (v := 48) hx hb hown (htu _ C_478) dX1_putFigures_75 ?_
            refine lv_lload hx hb dX1_putFigures_78 (lv_at hl 1 rfl) ?_
            refine lv_ladd hx hb dX1_putFigures_80 ?_
            refine lv_topl (fun f_40 ef_40 => ?_)
            refine lv_l2i hx hb dX1_putFigures_81 (v := _) rfl ?_
            refine lv_topi (fun f_41 ef_41 => ?_)
            refine lv_i2c hx hb dX1_putFigures_82 (v := _) rfl ?_
            refine lv_topi (fun f_42 ef_42 => ?_)
            have hC0 := hC
            refine c_cv (c_runV (As := [.int f_42]) (rest := []) (q0 := 8) (ci := 1) ⟨hx, hb, hml, hown, htu⟩ (xs_put_8 l G S1 Lq f_42 hC hp1 hp2 H) (cwV 1 htu hU_X1_25 rfl rfl rfl (by decide +kernel) ⟨Nat.le_of_ble_eq_true rfl, Nat.le_of_ble_eq_true rfl⟩) hP hK hD hC hpp cw_8 rfl rfl hl.1 rfl (lv_room (Nat.le_of_ble_eq_true rfl)) dX1_putFigures_83) hS hD hh hpp (fun S_44 H locs hw_45 hP hD hS hC hh hs_46 hpp => ?_)
            try dsimp only at hw_45
            have aw_47 : AW [] [202] S1 S_44 := hw_45.1
            have aw_47t : AW [] [202] S S_44 := hAW.tr (aw_47.mono (by decide) (by decide))
            have sg_48h : SG S_44 402 (lput 200 Lq (b8 f_42)) := hw_45.2
            have sg_48c : (lput 200 Lq (b8 f_42)).length ≤ 200 := (lput_len hp2).1
            refine lv_lload hx hb dX1_putFigures_86 (lv_at hl 5 rfl) ?_
            refine lv_ldc2 (v := 10) hx hb hown (htu _ C_477) dX1_putFigures_88 ?_
            refine lv_ldiv hx hb dX1_putFigures_91 (by decide) ?_
            rw [pv_div i (by omega)]
            refine lv_lstore (lv' := [(5, .long ((pv (i + 1)))), (4, .int 1), (7, .long f_9), (0, .ref (ga G 8)), (1, .int y), (2, .long f_1)]) hx hb dX1_putFigures_92 hl (by decide) rfl (fun ls hl => ?_)
            refine lv_goto (tgt := 26) hx hb dX1_putFigures_94 (by decide) ?_
            have q_49d : (mag y / 10 ^ (9 - i) % 10) < 10 := Nat.mod_lt _ (by decide)
            have q_49f : f_9 = Int64.ofNat (mag y / 10 ^ (9 - i) % 10) := ef_9.trans (by rw [ef_8]; exact fig_at2 hrt mag_le (show i < 10 by omega))
            exact ih9 _ _ _ _ _ ⟨S_44, 1, i + 1, (lput 200 Lq (b8 f_42)), ls, hC, hh, hpp, aw_47t, by omega, sg_48h, sg_48c, (fig_t hp3 (Or.inr (Or.inr ((pv_one i (by omega)).mp (lg0.mp (ef_35.symm.trans c_36))))) (by rw [ef_42, ef_41, ef_40, q_49f]; exact i2c_fig _ q_49d)), (Or.inr rfl), rfl, rfl, hP, hD, hS, lv_sub hl [3, 4, 5, 1, 0] rfl, rfl⟩
  · skip
    refine lv_aload_n hx hb dX1_putFigures_9 rfl (lv_at hl 1 rfl) ?_
    refine lv_bipush (v := 45) hx hb dX1_putFigures_10 (by decide) ?_
    have hC0 := hC
    refine c_cv (c_runV (As := [.int 45]) (rest := []) (q0 := 8) (ci := 1) ⟨hx, hb, hml, hown, htu⟩ (xs_put_8 l G S L9 45 hC hS9 hcap H) (cwV 1 htu hU_X1_25 rfl rfl rfl (by decide +kernel) ⟨Nat.le_of_ble_eq_true rfl, Nat.le_of_ble_eq_true rfl⟩) hP hK hD hC hpp cw_8 rfl rfl hl.1 rfl (lv_room (Nat.le_of_ble_eq_true rfl)) dX1_putFigures_12) hS hD hh hpp (fun S_51 H locs hw_52 hP hD hS hC hh hs_53 hpp => ?_)
    try dsimp only at hw_52
    have aw_54 : AW [] [202] S S_51 := hw_52.1
    have aw_54t : AW [] [202] S S_51 := AW.rf.tr (aw_54.mono (by decide) (by decide))
    have sg_55h : SG S_51 402 (lput 200 L9 (b8 45)) := hw_52.2
    have sg_55c : (lput 200 L9 (b8 45)).length ≤ 200 := (lput_len hcap).1
    refine lv_lload_n hx hb dX1_putFigures_15 rfl (lv_at hl 0 rfl) ?_
    refine lv_lneg hx hb dX1_putFigures_16 ?_
    refine lv_topl (fun f_56 ef_56 => ?_)
    refine lv_lstore_n (lv' := [(2, .long f_56), (0, .ref (ga G 8)), (1, .int y)]) hx hb dX1_putFigures_17 rfl hl (by decide) rfl (fun ls hl => ?_)
    refine lv_iconst (v := 0) hx hb dX1_putFigures_18 (by decide) ?_
    refine lv_istore (lv' := [(4, .int 0), (2, .long f_56), (0, .ref (ga G 8)), (1, .int y)]) hx hb dX1_putFigures_19 hl (by decide) rfl (fun ls hl => ?_)
    refine lv_ldc2 (v := 1000000000) hx hb hown (htu _ C_476) dX1_putFigures_21 ?_
    refine lv_lstore (lv' := [(5, .long 1000000000), (4, .int 0), (2, .long f_56), (0, .ref (ga G 8)), (1, .int y)]) hx hb dX1_putFigures_24 hl (by decide) rfl (fun ls hl => ?_)
    have hneg : y < 0 := Classical.byContradiction (fun z => c_3 (by simp only [*] at *; exact cmp_0.mpr z))
    obtain ⟨rr, hrr⟩ : ∃ rr : Int64, rr = f_56 := ⟨_, rfl⟩
    have hrt : (f_56).toInt = (mag y : Int) := by simp only [*] at *; exact neg_rest hneg
    refine w_loop (fun j H locs k sl g => ∃ (S1 : cS) (bg : Int32) (i : Nat) (Lq : List Int32) (ls : Array Slot), CL S1 ∧ HS S S1 ∧ PT S ≤ PT S1 ∧ AW [] [202] S S1 ∧ i + j = 10 ∧ SG S1 402 Lq ∧ Lq.length ≤ 200 ∧ lputs 200 Lq (fd (mag y) j i (decide (bg ≠ 0))) = lputs 200 L9 (figs y) ∧ (bg = 0 ∨ bg = 1) ∧ k = PT S1 - PT S ∧ sl = 12 * (PT S1 - PT S) ∧ cP G S1 H ∧ cD (cA G S s.heap.size) G S1 ∧ va_S (cA G S s.heap.size) s.heap H locs ∧ lv_has ls 9 [(0, .ref (ga G 8)), (1, .int y), (2, .long f_56), (4, .int bg), (5, .long ((pv i)))] ∧ g = F0 m 26 ls []) ?_ ?_ 10 _ _ _ _ _ ⟨S_51, 0, 0, (lput 200 L9 (b8 45)), ls, hC, hh, hpp, aw_54t, by omega, sg_55h, sg_55c, (figs_n hneg), (Or.inl rfl), rfl, rfl, hP, hD, hS, lv_sub hl [3, 4, 2, 1, 0] rfl, rfl⟩
    · intro H locs k sl g hI
      obtain ⟨S1, bg, i, Lq, ls, hC, hh, hpp, hAW, hp0, hp1, hp2, hp3, hp4, rfl, rfl, hP, hD, hS, hl, rfl⟩ := hI
      refine lv_lload hx hb dX1_putFigures_26 (lv_at hl 4 rfl) ?_
      refine lv_lconst (v := 1) hx hb dX1_putFigures_28 (by decide) ?_
      refine W.lcmp hx hb dX1_putFigures_29 ?_
      refine lv_topi (fun f_57 ef_57 => ?_)
      refine lv_if_lt (tgt := 97) hx hb dX1_putFigures_30 (by decide) (fun c_58 => ?_) (fun c_58 => absurd (by rw [ef_57, show i = 10 by omega]; exact pv_10) c_58)
      exact c_vret hx hb hr hK hP hD hS hC hh hpp ⟨hAW, (hp3 ▸ hp1)⟩ dX1_putFigures_97 hlocks
    · intro j ih9 H locs k sl g hI
      obtain ⟨S1, bg, i, Lq, ls, hC, hh, hpp, hAW, hp0, hp1, hp2, hp3, hp4, rfl, rfl, hP, hD, hS, hl, rfl⟩ := hI
      refine lv_lload hx hb dX1_putFigures_26 (lv_at hl 4 rfl) ?_
      refine lv_lconst (v := 1) hx hb dX1_putFigures_28 (by decide) ?_
      refine W.lcmp hx hb dX1_putFigures_29 ?_
      refine lv_topi (fun f_59 ef_59 => ?_)
      refine lv_if_lt (tgt := 97) hx hb dX1_putFigures_30 (by decide) (fun c_60 => absurd c_60 (by rw [ef_59]; exact pv_ge i (by omega))) (fun c_60 => ?_)
      refine lv_lload_n hx hb dX1_putFigures_33 rfl (lv_at hl 2 rfl) ?_
      refine lv_lload hx hb dX1_putFigures_34 (lv_at hl 4 rfl) ?_
      refine lv_ldiv hx hb dX1_putFigures_36 (pv_nz i (by omega)) ?_
      refine lv_topl (fun f_61 ef_61 => ?_)
      refine lv_ldc2 (v := 10) hx hb hown (htu _ C_477) dX1_putFigures_37 ?_
      refine lv_lrem hx hb dX1_putFigures_40 (by decide) ?_
      refine lv_topl (fun f_62 ef_62 => ?_)
      refine lv_lstore (lv' := [(7, .long f_62), (0, .ref (ga G 8)), (1, .int y), (2, .long f_56), (4, .int bg), (5, .long ((pv i)))]) hx hb dX1_putFigures_41 hl (by decide) rfl (fun ls hl => ?_)
      refine lv_iload hx hb dX1_putFigures_43 (lv_at hl 4 rfl) ?_
      refine lv_if_ne (tgt := 62) hx hb dX1_putFigures_45 (by decide) (fun c_63 => ?_) (fun c_63 => ?_)
      · skip
        refine lv_iconst (v := 1) hx hb dX1_putFigures_62 (by decide) ?_
        refine lv_goto (tgt := 67) hx hb dX1_putFigures_63 (by decide) ?_
        refine lv_istore (lv' := [(4, .int 1), (7, .long f_62), (0, .ref (ga G 8)), (1, .int y), (2, .long f_56), (5, .long ((pv i)))]) hx hb dX1_putFigures_67 hl (by decide) rfl (fun ls hl => ?_)
        refine lv_iload hx hb dX1_putFigures_69 (lv_at hl 0 rfl) ?_
        refine lv_if_eq (tgt := 86) hx hb dX1_putFigures_71 (by decide) (fun c_64 => absurd c_64 (by decide)) (fun c_64 => ?_)
        refine lv_aload_n hx hb dX1_putFigures_74 rfl (lv_at hl 2 rfl) ?_
        refine lv_ldc2 (v := 48) hx hb hown (htu _ C_478) dX1_putFigures_75 ?_
        refine lv_lload hx hb dX1_putFigures_78 (lv_at hl 1 rfl) ?_
        refine lv_ladd hx hb dX1_putFigures_80 ?_
        refine lv_topl (fun f_65 ef_65 => ?_)
        refine lv_l2i hx hb dX1_putFigures_81 (v := _) rfl ?_
        refine lv_topi (fun f_66 ef_66 => ?_)
        refine lv_i2c hx hb dX1_putFigures_82 (v := _) rfl ?_
        refine lv_topi (fun f_67 ef_67 => ?_)
        have hC0 := hC
        refine c_cv (c_runV (As := [.int f_67]) (rest := []) (q0 := 8) (ci := 1) ⟨hx, hb, hml, hown, htu⟩ (xs_put_8 l G S1 Lq f_67 hC hp1 hp2 H) (cwV 1 htu hU_X1_25 rfl rfl rfl (by decide +kernel) ⟨Nat.le_of_ble_eq_true rfl, Nat.le_of_ble_eq_true rfl⟩) hP hK hD hC hpp cw_8 rfl rfl hl.1 rfl (lv_room (Nat.le_of_ble_eq_true rfl)) dX1_putFigures_83) hS hD hh hpp (fun S_69 H locs hw_70 hP hD hS hC hh hs_71 hpp => ?_)
        try dsimp only at hw_70
        have aw_72 : AW [] [202] S1 S_69 := hw_70.1
        have aw_72t : AW [] [202] S S_69 := hAW.tr (aw_72.mono (by decide) (by decide))
        have sg_73h : SG S_69 402 (lput 200 Lq (b8 f_67)) := hw_70.2
        have sg_73c : (lput 200 Lq (b8 f_67)).length ≤ 200 := (lput_len hp2).1
        refine lv_lload hx hb dX1_putFigures_86 (lv_at hl 5 rfl) ?_
        refine lv_ldc2 (v := 10) hx hb hown (htu _ C_477) dX1_putFigures_88 ?_
        refine lv_ldiv hx hb dX1_putFigures_91 (by decide) ?_
        rw [pv_div i (by omega)]
        refine lv_lstore (lv' := [(5, .long ((pv (i + 1)))), (4, .int 1), (7, .long f_62), (0, .ref (ga G 8)), (1, .int y), (2, .long f_56)]) hx hb dX1_putFigures_92 hl (by decide) rfl (fun ls hl => ?_)
        refine lv_goto (tgt := 26) hx hb dX1_putFigures_94 (by decide) ?_
        have q_74d : (mag y / 10 ^ (9 - i) % 10) < 10 := Nat.mod_lt _ (by decide)
        have q_74f : f_62 = Int64.ofNat (mag y / 10 ^ (9 - i) % 10) := ef_62.trans (by rw [ef_61]; exact fig_at2 hrt mag_le (show i < 10 by omega))
        exact ih9 _ _ _ _ _ ⟨S_69, 1, i + 1, (lput 200 Lq (b8 f_67)), ls, hC, hh, hpp, aw_72t, by omega, sg_73h, sg_73c, (fig_t hp3 (Or.inl (decide_eq_true c_63)) (by rw [ef_67, ef_66, ef_65, q_74f]; exact i2c_fig _ q_74d)), (Or.inr rfl), rfl, rfl, hP, hD, hS, lv_sub hl [3, 4, 5, 1, 0] rfl, rfl⟩
      · skip
        refine lv_lload hx hb dX1_putFigures_48 (lv_at hl 0 rfl) ?_
        refine lv_lconst (v := 0) hx hb dX1_putFigures_50 (by decide) ?_
        refine W.lcmp hx hb dX1_putFigures_51 ?_
        refine lv_topi (fun f_75 ef_75 => ?_)
        refine lv_if_ne (tgt := 62) hx hb dX1_putFigures_52 (by decide) (fun c_76 => ?_) (fun c_76 => ?_)
        · skip
          refine lv_iconst (v := 1) hx hb dX1_putFigures_62 (by decide) ?_
          refine lv_goto (tgt := 67) hx hb dX1_putFigures_63 (by decide) ?_
          refine lv_istore (lv' := [(4, .int 1), (7, .long f_62), (0, .ref (ga G 8)), (1, .int y), (2, .long f_56), (5, .long ((pv i)))]) hx hb dX1_putFigures_67 hl (by decide) rfl (fun ls hl => ?_)
          refine lv_iload hx hb dX1_putFigures_69 (lv_at hl 0 rfl) ?_
          refine lv_if_eq (tgt := 86) hx hb dX1_putFigures_71 (by decide) (fun c_77 => absurd c_77 (by decide)) (fun c_77 => ?_)
          refine lv_aload_n hx hb dX1_putFigures_74 rfl (lv_at hl 2 rfl) ?_
          refine lv_ldc2 (v := 48) hx hb hown (htu _ C_478) dX1_putFigures_75 ?_
          refine lv_lload hx hb dX1_putFigures_78 (lv_at hl 1 rfl) ?_
          refine lv_ladd hx hb dX1_putFigures_80 ?_
          refine lv_topl (fun f_78 ef_78 => ?_)
          refine lv_l2i hx hb dX1_putFigures_81 (v := _) rfl ?_
          refine lv_topi (fun f_79 ef_79 => ?_)
          refine lv_i2c hx hb dX1_putFigures_82 (v := _) rfl ?_
          refine lv_topi (fun f_80 ef_80 => ?_)
          have hC0 := hC
          refine c_cv (c_runV (As := [.int f_80]) (rest := []) (q0 := 8) (ci := 1) ⟨hx, hb, hml, hown, htu⟩ (xs_put_8 l G S1 Lq f_80 hC hp1 hp2 H) (cwV 1 htu hU_X1_25 rfl rfl rfl (by decide +kernel) ⟨Nat.le_of_ble_eq_true rfl, Nat.le_of_ble_eq_true rfl⟩) hP hK hD hC hpp cw_8 rfl rfl hl.1 rfl (lv_room (Nat.le_of_ble_eq_true rfl)) dX1_putFigures_83) hS hD hh hpp (fun S_82 H locs hw_83 hP hD hS hC hh hs_84 hpp => ?_)
          try dsimp only at hw_83
          have aw_85 : AW [] [202] S1 S_82 := hw_83.1
          have aw_85t : AW [] [202] S S_82 := hAW.tr (aw_85.mono (by decide) (by decide))
          have sg_86h : SG S_82 402 (lput 200 Lq (b8 f_80)) := hw_83.2
          have sg_86c : (lput 200 Lq (b8 f_80)).length ≤ 200 := (lput_len hp2).1
          refine lv_lload hx hb dX1_putFigures_86 (lv_at hl 5 rfl) ?_
          refine lv_ldc2 (v := 10) hx hb hown (htu _ C_477) dX1_putFigures_88 ?_
          refine lv_ldiv hx hb dX1_putFigures_91 (by decide) ?_
          rw [pv_div i (by omega)]
          refine lv_lstore (lv' := [(5, .long ((pv (i + 1)))), (4, .int 1), (7, .long f_62), (0, .ref (ga G 8)), (1, .int y), (2, .long f_56)]) hx hb dX1_putFigures_92 hl (by decide) rfl (fun ls hl => ?_)
          refine lv_goto (tgt := 26) hx hb dX1_putFigures_94 (by decide) ?_
          have q_87d : (mag y / 10 ^ (9 - i) % 10) < 10 := Nat.mod_lt _ (by decide)
          have q_87f : f_62 = Int64.ofNat (mag y / 10 ^ (9 - i) % 10) := ef_62.trans (by rw [ef_61]; exact fig_at2 hrt mag_le (show i < 10 by omega))
          exact ih9 _ _ _ _ _ ⟨S_82, 1, i + 1, (lput 200 Lq (b8 f_80)), ls, hC, hh, hpp, aw_85t, by omega, sg_86h, sg_86c, (fig_t hp3 (Or.inr (Or.inl (fun z => c_76 (by rw [ef_75, q_87f, z]; rfl)))) (by rw [ef_80, ef_79, ef_78, q_87f]; exact i2c_fig _ q_87d)), (Or.inr rfl), rfl, rfl, hP, hD, hS, lv_sub hl [3, 4, 5, 1, 0] rfl, rfl⟩
        · skip
          refine lv_lload hx hb dX1_putFigures_55 (lv_at hl 5 rfl) ?_
          refine lv_lconst (v := 1) hx hb dX1_putFigures_57 (by decide) ?_
          refine W.lcmp hx hb dX1_putFigures_58 ?_
          refine lv_topi (fun f_88 ef_88 => ?_)
          refine lv_if_ne (tgt := 66) hx hb dX1_putFigures_59 (by decide) (fun c_89 => ?_) (fun c_89 => ?_)
          · skip
            refine lv_iconst (v := 0) hx hb dX1_putFigures_66 (by decide) ?_
            refine lv_istore (lv' := [(4, .int 0), (7, .long f_62), (0, .ref (ga G 8)), (1, .int y), (2, .long f_56), (5, .long ((pv i)))]) hx hb dX1_putFigures_67 hl (by decide) rfl (fun ls hl => ?_)
            refine lv_iload hx hb dX1_putFigures_69 (lv_at hl 0 rfl) ?_
            refine lv_if_eq (tgt := 86) hx hb dX1_putFigures_71 (by decide) (fun c_90 => ?_) (fun c_90 => absurd (by decide) c_90)
            refine lv_lload hx hb dX1_putFigures_86 (lv_at hl 5 rfl) ?_
            refine lv_ldc2 (v := 10) hx hb hown (htu _ C_477) dX1_putFigures_88 ?_
            refine lv_ldiv hx hb dX1_putFigures_91 (by decide) ?_
            rw [pv_div i (by omega)]
            refine lv_lstore (lv' := [(5, .long ((pv (i + 1)))), (4, .int 0), (7, .long f_62), (0, .ref (ga G 8)), (1, .int y), (2, .long f_56)]) hx hb dX1_putFigures_92 hl (by decide) rfl (fun ls hl => ?_)
            refine lv_goto (tgt := 26) hx hb dX1_putFigures_94 (by decide) ?_
            have q_91d : (mag y / 10 ^ (9 - i) % 10) < 10 := Nat.mod_lt _ (by decide)
            have q_91f : f_62 = Int64.ofNat (mag y / 10 ^ (9 - i) % 10) := ef_62.trans (by rw [ef_61]; exact fig_at2 hrt mag_le (show i < 10 by omega))
            exact ih9 _ _ _ _ _ ⟨S1, 0, i + 1, Lq, ls, hC, hh, hpp, hAW, by omega, hp1, hp2, (fig_f hp3 (fun z => z.elim (fun z => of_decide_eq_true z c_63) (fun z => z.elim (fun z => z ((of_0 q_91d).mp (q_91f.symm.trans (lg0.mp (ef_75.symm.trans c_76))))) (fun z => c_89 (ef_88.trans (lg0.mpr ((pv_one i (by omega)).mpr z))))))), (Or.inl rfl), rfl, rfl, hP, hD, hS, lv_sub hl [3, 4, 5, 1, 0] rfl, rfl⟩
          · skip
            refine lv_iconst (v := 1) hx hb dX1_putFigures_62 (by decide) ?_
            refine lv_goto (tgt := 67) hx hb dX1_putFigures_63 (by decide) ?_
            refine lv_istore (lv' := [(4, .int 1), (7, .long f_62), (0, .ref (ga G 8)), (1, .int y), (2, .long f_56), (5, .long ((pv i)))]) hx hb dX1_putFigures_67 hl (by decide) rfl (fun ls hl => ?_)
            refine lv_iload hx hb dX1_putFigures_69 (lv_at hl 0 rfl) ?_
            refine lv_if_eq (tgt := 86) hx hb dX1_putFigures_71 (by decide) (fun c_92 => absurd c_92 (by decide)) (fun c_92 => ?_)
            refine lv_aload_n hx hb dX1_putFigures_74 rfl (lv_at hl 2 rfl) ?_
            refine lv_ldc2 (v := 48) hx hb hown (htu _ C_478) dX1_putFigures_75 ?_
            refine lv_lload hx hb dX1_putFigures_78 (lv_at hl 1 rfl) ?_
            refine lv_ladd hx hb dX1_putFigures_80 ?_
            refine lv_topl (fun f_93 ef_93 => ?_)
            refine lv_l2i hx hb dX1_putFigures_81 (v := _) rfl ?_
            refine lv_topi (fun f_94 ef_94 => ?_)
            refine lv_i2c hx hb dX1_putFigures_82 (v := _) rfl ?_
            refine lv_topi (fun f_95 ef_95 => ?_)
            have hC0 := hC
            refine c_cv (c_runV (As := [.int f_95]) (rest := []) (q0 := 8) (ci := 1) ⟨hx, hb, hml, hown, htu⟩ (xs_put_8 l G S1 Lq f_95 hC hp1 hp2 H) (cwV 1 htu hU_X1_25 rfl rfl rfl (by decide +kernel) ⟨Nat.le_of_ble_eq_true rfl, Nat.le_of_ble_eq_true rfl⟩) hP hK hD hC hpp cw_8 rfl rfl hl.1 rfl (lv_room (Nat.le_of_ble_eq_true rfl)) dX1_putFigures_83) hS hD hh hpp (fun S_97 H locs hw_98 hP hD hS hC hh hs_99 hpp => ?_)
            try dsimp only at hw_98
            have aw_100 : AW [] [202] S1 S_97 := hw_98.1
            have aw_100t : AW [] [202] S S_97 := hAW.tr (aw_100.mono (by decide) (by decide))
            have sg_101h : SG S_97 402 (lput 200 Lq (b8 f_95)) := hw_98.2
            have sg_101c : (lput 200 Lq (b8 f_95)).length ≤ 200 := (lput_len hp2).1
            refine lv_lload hx hb dX1_putFigures_86 (lv_at hl 5 rfl) ?_
            refine lv_ldc2 (v := 10) hx hb hown (htu _ C_477) dX1_putFigures_88 ?_
            refine lv_ldiv hx hb dX1_putFigures_91 (by decide) ?_
            rw [pv_div i (by omega)]
            refine lv_lstore (lv' := [(5, .long ((pv (i + 1)))), (4, .int 1), (7, .long f_62), (0, .ref (ga G 8)), (1, .int y), (2, .long f_56)]) hx hb dX1_putFigures_92 hl (by decide) rfl (fun ls hl => ?_)
            refine lv_goto (tgt := 26) hx hb dX1_putFigures_94 (by decide) ?_
            have q_102d : (mag y / 10 ^ (9 - i) % 10) < 10 := Nat.mod_lt _ (by decide)
            have q_102f : f_62 = Int64.ofNat (mag y / 10 ^ (9 - i) % 10) := ef_62.trans (by rw [ef_61]; exact fig_at2 hrt mag_le (show i < 10 by omega))
            exact ih9 _ _ _ _ _ ⟨S_97, 1, i + 1, (lput 200 Lq (b8 f_95)), ls, hC, hh, hpp, aw_100t, by omega, sg_101h, sg_101c, (fig_t hp3 (Or.inr (Or.inr ((pv_one i (by omega)).mp (lg0.mp (ef_88.symm.trans c_89))))) (by rw [ef_95, ef_94, ef_93, q_102f]; exact i2c_fig _ q_102d)), (Or.inr rfl), rfl, rfl, hP, hD, hS, lv_sub hl [3, 4, 5, 1, 0] rfl, rfl⟩
