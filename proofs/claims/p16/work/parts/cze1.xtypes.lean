set_option maxHeartbeats 4000000 in
set_option maxRecDepth 100000 in
/-- labelAt -/
theorem x_labelAt (l : Launch) (G : cG) (S : cS) (t : Int32) (i : Int32) (hC : CL S) (Hs : Heap) : Met l yX4_labelAt (wC yX4_labelAt cX4_labelAt 3 (some .int)) (cRm S 1 21) (cPc G S Hs [.ref (ga G 2), .int t, .int i]) (cQi G S Hs (fun v u => AW [] [] S u ∧ (u = S ∧ v = rget (kF S 10) (kK S 10) (rget (kF S 8) (kK S 8) t + i)))) (CC - PT S) (12 * (CC - PT S)) (cA G S Hs.size) := by
  refine Met.ofW (cc := cX4_labelAt) (maxL := 3) (ret := (some .int)) (by decide) rfl ?_
  intro p e s m args below meth c s₁ B hml hv
  obtain ⟨rfl, hsz, hP, hK, hD0, -⟩ := hv
  have hx := B.exec
  have hb := B.bytes
  have hr := B.returns
  have htu : ∀ w ∈ CU, w.before _ s = true := fun w h => atoms_spec (ws := (wC yX4_labelAt cX4_labelAt 3 (some .int))) B.pre w (List.mem_cons_of_mem _ h)
  have hown : s.vm.findClass RX4 = some m.cls := findClass_of_methodNamed B.named
  have hlocks := B.notSynchronized
  subst hsz
  have hD : cD (cA G S s.heap.size) G S := cD_self hD0
  have hl := lv_entry ([.ref (ga G 2), .int t, .int i]) (n := 3) (Nat.le_of_ble_eq_true rfl)
  rw [lg_entry_eq]
  generalize (lg_sl ([.ref (ga G 2), .int t, .int i]) ++ List.replicate (3 - (lg_sl ([.ref (ga G 2), .int t, .int i])).length) Slot.unset).toArray = ls at hl ⊢
  have hl : lv_has ls 3 [(0, .ref (ga G 2)), (1, .int t), (2, .int i)] := hl
  obtain ⟨H, hHe⟩ : ∃ H : Heap, H = s.heap := ⟨_, rfl⟩
  rw [← hHe] at hP
  have hS : va_S (cA G S s.heap.size) s.heap H [] := by rw [hHe]; exact va_S.rf
  have hh : HS S S := HS.rf
  have hpp : PT S ≤ PT S := Nat.le_refl _
  have hB9 := hC.1
  refine W.heq hHe ?_
  refine c_ent (S := S) ?_
  refine lv_aload_n hx hb dX4_labelAt_0 rfl (lv_at hl 0 rfl) ?_
  refine va_get (D := gD G) (ci := 4) (v := .ref (kH S 10)) (C := RX4) (T := TX4) (N := 14) hx hb htu cu_in4 hown hK hP 2 cw_2 rfl 4 (by decide) (htu _ C_70) (fun _ h9 => h9) rfl dX4_labelAt_1 ?_
  refine lv_aload_n hx hb dX4_labelAt_4 rfl (lv_at hl 0 rfl) ?_
  refine va_get (D := gD G) (ci := 4) (v := .ref (kH S 8)) (C := RX4) (T := TX4) (N := 14) hx hb htu cu_in4 hown hK hP 2 cw_2 rfl 2 (by decide) (htu _ C_68) (fun _ h9 => h9) rfl dX4_labelAt_5 ?_
  refine lv_iload_n hx hb dX4_labelAt_8 rfl (lv_at hl 1 rfl) ?_
  have hC0 := hC
  refine c_ci (c_runV (As := [.int t]) (rest := [.ref (kH S 10)]) (q0 := (2 * 8 + 13)) (ci := 0) ⟨hx, hb, hml, hown, htu⟩ (c_getA l G S 8 (lt35 (by decide)) hC (kH S 8) rfl t H) (cwV 1 htu hU_X4_89 rfl rfl rfl (by decide +kernel) ⟨Nat.le_of_ble_eq_true rfl, Nat.le_of_ble_eq_true rfl⟩) hP hK hD hC hpp (c_hd rfl (cw_row (lt35 (by decide)))) rfl rfl hl.1 rfl (lv_room (Nat.le_of_ble_eq_true rfl)) dX4_labelAt_9) hS hD hh hpp (fun r_1 S_2 H locs hw_3 hP hD hS hC hh hs_4 hpq => ?_)
  clear hpp
  have hpp := hpq
  clear hpq
  obtain ⟨hu9, hw_3⟩ := hw_3
  have hu9 := hu9.symm
  subst hu9
  refine lv_iload_n hx hb dX4_labelAt_12 rfl (lv_at hl 2 rfl) ?_
  refine lv_iadd hx hb dX4_labelAt_13 ?_
  refine lv_topi (fun f_5 ef_5 => ?_)
  have hC0 := hC
  refine c_ci (c_runV (As := [.int f_5]) (rest := []) (q0 := (2 * 10 + 13)) (ci := 0) ⟨hx, hb, hml, hown, htu⟩ (c_getA l G S 10 (lt35 (by decide)) hC (kH S 10) rfl f_5 H) (cwV 1 htu hU_X4_89 rfl rfl rfl (by decide +kernel) ⟨Nat.le_of_ble_eq_true rfl, Nat.le_of_ble_eq_true rfl⟩) hP hK hD hC hpp (c_hd rfl (cw_row (lt35 (by decide)))) rfl rfl hl.1 rfl (lv_room (Nat.le_of_ble_eq_true rfl)) dX4_labelAt_14) hS hD hh hpp (fun r_6 S_7 H locs hw_8 hP hD hS hC hh hs_9 hpq => ?_)
  clear hpp
  have hpp := hpq
  clear hpq
  obtain ⟨hu9, hw_8⟩ := hw_8
  have hu9 := hu9.symm
  subst hu9
  exact c_iret (v := r_6) hx hb hr hK hP hD hS hC hh hpp ⟨AW.rf, ⟨rfl, by rw [hw_8, ef_5, hw_3]⟩⟩ dX4_labelAt_17 hlocks

set_option maxHeartbeats 4000000 in
set_option maxRecDepth 100000 in
/-- partAt -/
theorem x_partAt (l : Launch) (G : cG) (S : cS) (t : Int32) (i : Int32) (hC : CL S) (Hs : Heap) : Met l yX4_partAt (wC yX4_partAt cX4_partAt 3 (some .int)) (cRm S 1 21) (cPc G S Hs [.ref (ga G 2), .int t, .int i]) (cQi G S Hs (fun v u => AW [] [] S u ∧ (u = S ∧ v = rget (kF S 11) (kK S 11) (rget (kF S 8) (kK S 8) t + i)))) (CC - PT S) (12 * (CC - PT S)) (cA G S Hs.size) := by
  refine Met.ofW (cc := cX4_partAt) (maxL := 3) (ret := (some .int)) (by decide) rfl ?_
  intro p e s m args below meth c s₁ B hml hv
  obtain ⟨rfl, hsz, hP, hK, hD0, -⟩ := hv
  have hx := B.exec
  have hb := B.bytes
  have hr := B.returns
  have htu : ∀ w ∈ CU, w.before _ s = true := fun w h => atoms_spec (ws := (wC yX4_partAt cX4_partAt 3 (some .int))) B.pre w (List.mem_cons_of_mem _ h)
  have hown : s.vm.findClass RX4 = some m.cls := findClass_of_methodNamed B.named
  have hlocks := B.notSynchronized
  subst hsz
  have hD : cD (cA G S s.heap.size) G S := cD_self hD0
  have hl := lv_entry ([.ref (ga G 2), .int t, .int i]) (n := 3) (Nat.le_of_ble_eq_true rfl)
  rw [lg_entry_eq]
  generalize (lg_sl ([.ref (ga G 2), .int t, .int i]) ++ List.replicate (3 - (lg_sl ([.ref (ga G 2), .int t, .int i])).length) Slot.unset).toArray = ls at hl ⊢
  have hl : lv_has ls 3 [(0, .ref (ga G 2)), (1, .int t), (2, .int i)] := hl
  obtain ⟨H, hHe⟩ : ∃ H : Heap, H = s.heap := ⟨_, rfl⟩
  rw [← hHe] at hP
  have hS : va_S (cA G S s.heap.size) s.heap H [] := by rw [hHe]; exact va_S.rf
  have hh : HS S S := HS.rf
  have hpp : PT S ≤ PT S := Nat.le_refl _
  have hB9 := hC.1
  refine W.heq hHe ?_
  refine c_ent (S := S) ?_
  refine lv_aload_n hx hb dX4_partAt_0 rfl (lv_at hl 0 rfl) ?_
  refine va_get (D := gD G) (ci := 4) (v := .ref (kH S 11)) (C := RX4) (T := TX4) (N := 14) hx hb htu cu_in4 hown hK hP 2 cw_2 rfl 5 (by decide) (htu _ C_71) (fun _ h9 => h9) rfl dX4_partAt_1 ?_
  refine lv_aload_n hx hb dX4_partAt_4 rfl (lv_at hl 0 rfl) ?_
  refine va_get (D := gD G) (ci := 4) (v := .ref (kH S 8)) (C := RX4) (T := TX4) (N := 14) hx hb htu cu_in4 hown hK hP 2 cw_2 rfl 2 (by decide) (htu _ C_68) (fun _ h9 => h9) rfl dX4_partAt_5 ?_
  refine lv_iload_n hx hb dX4_partAt_8 rfl (lv_at hl 1 rfl) ?_
  have hC0 := hC
  refine c_ci (c_runV (As := [.int t]) (rest := [.ref (kH S 11)]) (q0 := (2 * 8 + 13)) (ci := 0) ⟨hx, hb, hml, hown, htu⟩ (c_getA l G S 8 (lt35 (by decide)) hC (kH S 8) rfl t H) (cwV 1 htu hU_X4_89 rfl rfl rfl (by decide +kernel) ⟨Nat.le_of_ble_eq_true rfl, Nat.le_of_ble_eq_true rfl⟩) hP hK hD hC hpp (c_hd rfl (cw_row (lt35 (by decide)))) rfl rfl hl.1 rfl (lv_room (Nat.le_of_ble_eq_true rfl)) dX4_partAt_9) hS hD hh hpp (fun r_1 S_2 H locs hw_3 hP hD hS hC hh hs_4 hpq => ?_)
  clear hpp
  have hpp := hpq
  clear hpq
  obtain ⟨hu9, hw_3⟩ := hw_3
  have hu9 := hu9.symm
  subst hu9
  refine lv_iload_n hx hb dX4_partAt_12 rfl (lv_at hl 2 rfl) ?_
  refine lv_iadd hx hb dX4_partAt_13 ?_
  refine lv_topi (fun f_5 ef_5 => ?_)
  have hC0 := hC
  refine c_ci (c_runV (As := [.int f_5]) (rest := []) (q0 := (2 * 11 + 13)) (ci := 0) ⟨hx, hb, hml, hown, htu⟩ (c_getA l G S 11 (lt35 (by decide)) hC (kH S 11) rfl f_5 H) (cwV 1 htu hU_X4_89 rfl rfl rfl (by decide +kernel) ⟨Nat.le_of_ble_eq_true rfl, Nat.le_of_ble_eq_true rfl⟩) hP hK hD hC hpp (c_hd rfl (cw_row (lt35 (by decide)))) rfl rfl hl.1 rfl (lv_room (Nat.le_of_ble_eq_true rfl)) dX4_partAt_14) hS hD hh hpp (fun r_6 S_7 H locs hw_8 hP hD hS hC hh hs_9 hpq => ?_)
  clear hpp
  have hpp := hpq
  clear hpq
  obtain ⟨hu9, hw_8⟩ := hw_8
  have hu9 := hu9.symm
  subst hu9
  exact c_iret (v := r_6) hx hb hr hK hP hD hS hC hh hpp ⟨AW.rf, ⟨rfl, by rw [hw_8, ef_5, hw_3]⟩⟩ dX4_partAt_17 hlocks

set_option maxHeartbeats 4000000 in
set_option maxRecDepth 100000 in
/-- numberOf -/
theorem x_numberOf (l : Launch) (G : cG) (S : cS) (t : Int32) (hC : CL S) (Hs : Heap) : Met l yX4_numberOf (wC yX4_numberOf cX4_numberOf 2 (some .int)) (cRm S 1 21) (cPc G S Hs [.ref (ga G 2), .int t]) (cQi G S Hs (fun v u => AW [] [] S u ∧ (u = S ∧ (rget (kF S 6) (kK S 6) t = 4 → v = rget (kF S 8) (kK S 8) t)))) (CC - PT S) (12 * (CC - PT S)) (cA G S Hs.size) := by
  refine Met.ofW (cc := cX4_numberOf) (maxL := 2) (ret := (some .int)) (by decide) rfl ?_
  intro p e s m args below meth c s₁ B hml hv
  obtain ⟨rfl, hsz, hP, hK, hD0, -⟩ := hv
  have hx := B.exec
  have hb := B.bytes
  have hr := B.returns
  have htu : ∀ w ∈ CU, w.before _ s = true := fun w h => atoms_spec (ws := (wC yX4_numberOf cX4_numberOf 2 (some .int))) B.pre w (List.mem_cons_of_mem _ h)
  have hown : s.vm.findClass RX4 = some m.cls := findClass_of_methodNamed B.named
  have hlocks := B.notSynchronized
  subst hsz
  have hD : cD (cA G S s.heap.size) G S := cD_self hD0
  have hl := lv_entry ([.ref (ga G 2), .int t]) (n := 2) (Nat.le_of_ble_eq_true rfl)
  rw [lg_entry_eq]
  generalize (lg_sl ([.ref (ga G 2), .int t]) ++ List.replicate (2 - (lg_sl ([.ref (ga G 2), .int t])).length) Slot.unset).toArray = ls at hl ⊢
  have hl : lv_has ls 2 [(0, .ref (ga G 2)), (1, .int t)] := hl
  obtain ⟨H, hHe⟩ : ∃ H : Heap, H = s.heap := ⟨_, rfl⟩
  rw [← hHe] at hP
  have hS : va_S (cA G S s.heap.size) s.heap H [] := by rw [hHe]; exact va_S.rf
  have hh : HS S S := HS.rf
  have hpp : PT S ≤ PT S := Nat.le_refl _
  have hB9 := hC.1
  refine W.heq hHe ?_
  refine c_ent (S := S) ?_
  refine lv_aload_n hx hb dX4_numberOf_0 rfl (lv_at hl 0 rfl) ?_
  refine va_get (D := gD G) (ci := 4) (v := .ref (kH S 6)) (C := RX4) (T := TX4) (N := 14) hx hb htu cu_in4 hown hK hP 2 cw_2 rfl 0 (by decide) (htu _ C_66) (fun _ h9 => h9) rfl dX4_numberOf_1 ?_
  refine lv_iload_n hx hb dX4_numberOf_4 rfl (lv_at hl 1 rfl) ?_
  have hC0 := hC
  refine c_ci (c_runV (As := [.int t]) (rest := []) (q0 := (2 * 6 + 13)) (ci := 0) ⟨hx, hb, hml, hown, htu⟩ (c_getA l G S 6 (lt35 (by decide)) hC (kH S 6) rfl t H) (cwV 1 htu hU_X4_89 rfl rfl rfl (by decide +kernel) ⟨Nat.le_of_ble_eq_true rfl, Nat.le_of_ble_eq_true rfl⟩) hP hK hD hC hpp (c_hd rfl (cw_row (lt35 (by decide)))) rfl rfl hl.1 rfl (lv_room (Nat.le_of_ble_eq_true rfl)) dX4_numberOf_5) hS hD hh hpp (fun r_1 S_2 H locs hw_3 hP hD hS hC hh hs_4 hpq => ?_)
  clear hpp
  have hpp := hpq
  clear hpq
  obtain ⟨hu9, hw_3⟩ := hw_3
  have hu9 := hu9.symm
  subst hu9
  refine lv_iconst (v := 4) hx hb dX4_numberOf_8 (by decide) ?_
  refine lv_icmp_ne (tgt := 23) hx hb dX4_numberOf_9 (by decide) (fun c_5 => ?_) (fun c_5 => ?_)
  · skip
    refine lv_bipush (v := (-9)) hx hb dX4_numberOf_23 (by decide) ?_
    exact c_iret (v := (-9)) hx hb hr hK hP hD hS hC hh hpp ⟨AW.rf, ⟨rfl, fun h => absurd (hw_3.trans h) c_5⟩⟩ dX4_numberOf_25 hlocks
  · skip
    refine lv_aload_n hx hb dX4_numberOf_12 rfl (lv_at hl 0 rfl) ?_
    refine va_get (D := gD G) (ci := 4) (v := .ref (kH S 8)) (C := RX4) (T := TX4) (N := 14) hx hb htu cu_in4 hown hK hP 2 cw_2 rfl 2 (by decide) (htu _ C_68) (fun _ h9 => h9) rfl dX4_numberOf_13 ?_
    refine lv_iload_n hx hb dX4_numberOf_16 rfl (lv_at hl 1 rfl) ?_
    have hC0 := hC
    refine c_ci (c_runV (As := [.int t]) (rest := []) (q0 := (2 * 8 + 13)) (ci := 0) ⟨hx, hb, hml, hown, htu⟩ (c_getA l G S 8 (lt35 (by decide)) hC (kH S 8) rfl t H) (cwV 1 htu hU_X4_89 rfl rfl rfl (by decide +kernel) ⟨Nat.le_of_ble_eq_true rfl, Nat.le_of_ble_eq_true rfl⟩) hP hK hD hC hpp (c_hd rfl (cw_row (lt35 (by decide)))) rfl rfl hl.1 rfl (lv_room (Nat.le_of_ble_eq_true rfl)) dX4_numberOf_17) hS hD hh hpp (fun r_6 S_7 H locs hw_8 hP hD hS hC hh hs_9 hpq => ?_)
    clear hpp
    have hpp := hpq
    clear hpq
    obtain ⟨hu9, hw_8⟩ := hw_8
    have hu9 := hu9.symm
    subst hu9
    refine lv_goto (tgt := 25) hx hb dX4_numberOf_20 (by decide) ?_
    exact c_iret (v := r_6) hx hb hr hK hP hD hS hC hh hpp ⟨AW.rf, ⟨rfl, fun _ => hw_8⟩⟩ dX4_numberOf_25 hlocks

set_option maxHeartbeats 4000000 in
set_option maxRecDepth 100000 in
/-- fieldCount -/
theorem x_fieldCount (l : Launch) (G : cG) (S : cS) (t : Int32) (hC : CL S) (Hs : Heap) : Met l yX4_fieldCount (wC yX4_fieldCount cX4_fieldCount 2 (some .int)) (cRm S 1 21) (cPc G S Hs [.ref (ga G 2), .int t]) (cQi G S Hs (fun v u => AW [] [] S u ∧ (u = S ∧ (rget (kF S 6) (kK S 6) t = 3 → v = rget (kF S 9) (kK S 9) t)))) (CC - PT S) (12 * (CC - PT S)) (cA G S Hs.size) := by
  refine Met.ofW (cc := cX4_fieldCount) (maxL := 2) (ret := (some .int)) (by decide) rfl ?_
  intro p e s m args below meth c s₁ B hml hv
  obtain ⟨rfl, hsz, hP, hK, hD0, -⟩ := hv
  have hx := B.exec
  have hb := B.bytes
  have hr := B.returns
  have htu : ∀ w ∈ CU, w.before _ s = true := fun w h => atoms_spec (ws := (wC yX4_fieldCount cX4_fieldCount 2 (some .int))) B.pre w (List.mem_cons_of_mem _ h)
  have hown : s.vm.findClass RX4 = some m.cls := findClass_of_methodNamed B.named
  have hlocks := B.notSynchronized
  subst hsz
  have hD : cD (cA G S s.heap.size) G S := cD_self hD0
  have hl := lv_entry ([.ref (ga G 2), .int t]) (n := 2) (Nat.le_of_ble_eq_true rfl)
  rw [lg_entry_eq]
  generalize (lg_sl ([.ref (ga G 2), .int t]) ++ List.replicate (2 - (lg_sl ([.ref (ga G 2), .int t])).length) Slot.unset).toArray = ls at hl ⊢
  have hl : lv_has ls 2 [(0, .ref (ga G 2)), (1, .int t)] := hl
  obtain ⟨H, hHe⟩ : ∃ H : Heap, H = s.heap := ⟨_, rfl⟩
  rw [← hHe] at hP
  have hS : va_S (cA G S s.heap.size) s.heap H [] := by rw [hHe]; exact va_S.rf
  have hh : HS S S := HS.rf
  have hpp : PT S ≤ PT S := Nat.le_refl _
  have hB9 := hC.1
  refine W.heq hHe ?_
  refine c_ent (S := S) ?_
  refine lv_aload_n hx hb dX4_fieldCount_0 rfl (lv_at hl 0 rfl) ?_
  refine va_get (D := gD G) (ci := 4) (v := .ref (kH S 6)) (C := RX4) (T := TX4) (N := 14) hx hb htu cu_in4 hown hK hP 2 cw_2 rfl 0 (by decide) (htu _ C_66) (fun _ h9 => h9) rfl dX4_fieldCount_1 ?_
  refine lv_iload_n hx hb dX4_fieldCount_4 rfl (lv_at hl 1 rfl) ?_
  have hC0 := hC
  refine c_ci (c_runV (As := [.int t]) (rest := []) (q0 := (2 * 6 + 13)) (ci := 0) ⟨hx, hb, hml, hown, htu⟩ (c_getA l G S 6 (lt35 (by decide)) hC (kH S 6) rfl t H) (cwV 1 htu hU_X4_89 rfl rfl rfl (by decide +kernel) ⟨Nat.le_of_ble_eq_true rfl, Nat.le_of_ble_eq_true rfl⟩) hP hK hD hC hpp (c_hd rfl (cw_row (lt35 (by decide)))) rfl rfl hl.1 rfl (lv_room (Nat.le_of_ble_eq_true rfl)) dX4_fieldCount_5) hS hD hh hpp (fun r_1 S_2 H locs hw_3 hP hD hS hC hh hs_4 hpq => ?_)
  clear hpp
  have hpp := hpq
  clear hpq
  obtain ⟨hu9, hw_3⟩ := hw_3
  have hu9 := hu9.symm
  subst hu9
  refine lv_iconst (v := 3) hx hb dX4_fieldCount_8 (by decide) ?_
  refine lv_icmp_ne (tgt := 23) hx hb dX4_fieldCount_9 (by decide) (fun c_5 => ?_) (fun c_5 => ?_)
  · skip
    refine lv_iconst (v := 0) hx hb dX4_fieldCount_23 (by decide) ?_
    exact c_iret (v := 0) hx hb hr hK hP hD hS hC hh hpp ⟨AW.rf, ⟨rfl, fun h => absurd (hw_3.trans h) c_5⟩⟩ dX4_fieldCount_24 hlocks
  · skip
    refine lv_aload_n hx hb dX4_fieldCount_12 rfl (lv_at hl 0 rfl) ?_
    refine va_get (D := gD G) (ci := 4) (v := .ref (kH S 9)) (C := RX4) (T := TX4) (N := 14) hx hb htu cu_in4 hown hK hP 2 cw_2 rfl 3 (by decide) (htu _ C_69) (fun _ h9 => h9) rfl dX4_fieldCount_13 ?_
    refine lv_iload_n hx hb dX4_fieldCount_16 rfl (lv_at hl 1 rfl) ?_
    have hC0 := hC
    refine c_ci (c_runV (As := [.int t]) (rest := []) (q0 := (2 * 9 + 13)) (ci := 0) ⟨hx, hb, hml, hown, htu⟩ (c_getA l G S 9 (lt35 (by decide)) hC (kH S 9) rfl t H) (cwV 1 htu hU_X4_89 rfl rfl rfl (by decide +kernel) ⟨Nat.le_of_ble_eq_true rfl, Nat.le_of_ble_eq_true rfl⟩) hP hK hD hC hpp (c_hd rfl (cw_row (lt35 (by decide)))) rfl rfl hl.1 rfl (lv_room (Nat.le_of_ble_eq_true rfl)) dX4_fieldCount_17) hS hD hh hpp (fun r_6 S_7 H locs hw_8 hP hD hS hC hh hs_9 hpq => ?_)
    clear hpp
    have hpp := hpq
    clear hpq
    obtain ⟨hu9, hw_8⟩ := hw_8
    have hu9 := hu9.symm
    subst hu9
    refine lv_goto (tgt := 24) hx hb dX4_fieldCount_20 (by decide) ?_
    exact c_iret (v := r_6) hx hb hr hK hP hD hS hC hh hpp ⟨AW.rf, ⟨rfl, fun _ => hw_8⟩⟩ dX4_fieldCount_24 hlocks

set_option maxHeartbeats 4000000 in
set_option maxRecDepth 100000 in
/-- stage -/
theorem x_stage (l : Launch) (G : cG) (S : cS) (T : Nat) (V : Nat) (VP : Nat) (X : Nat) (Y : Nat) (Z : Nat) (x : Int32) (y : Int32) (hC : CL S) (hY : TY S T V VP X Y Z) (hlt : Y < 1000) (Hs : Heap) : Met l yX4_stage (wC yX4_stage cX4_stage 3 none) (cRm S 3 103) (cPc G S Hs [.ref (ga G 2), .int x, .int y]) (cQv G S Hs (fun u => AW [12, 13] [] S u ∧ (TY u T V VP X (Y + 1) Z ∧ (kF u 12 Y = x ∧ kF u 13 Y = y ∧ ∀ j, j < Y → kF u 12 j = kF S 12 j ∧ kF u 13 j = kF S 13 j)))) (CC - PT S) (12 * (CC - PT S)) (cA G S Hs.size) := by
  refine Met.ofW (cc := cX4_stage) (maxL := 3) (ret := none) (by decide) rfl ?_
  intro p e s m args below meth c s₁ B hml hv
  obtain ⟨rfl, hsz, hP, hK, hD0, -⟩ := hv
  have hx := B.exec
  have hb := B.bytes
  have hr := B.returns
  have htu : ∀ w ∈ CU, w.before _ s = true := fun w h => atoms_spec (ws := (wC yX4_stage cX4_stage 3 none)) B.pre w (List.mem_cons_of_mem _ h)
  have hown : s.vm.findClass RX4 = some m.cls := findClass_of_methodNamed B.named
  have hlocks := B.notSynchronized
  subst hsz
  have hD : cD (cA G S s.heap.size) G S := cD_self hD0
  have hl := lv_entry ([.ref (ga G 2), .int x, .int y]) (n := 3) (Nat.le_of_ble_eq_true rfl)
  rw [lg_entry_eq]
  generalize (lg_sl ([.ref (ga G 2), .int x, .int y]) ++ List.replicate (3 - (lg_sl ([.ref (ga G 2), .int x, .int y])).length) Slot.unset).toArray = ls at hl ⊢
  have hl : lv_has ls 3 [(0, .ref (ga G 2)), (1, .int x), (2, .int y)] := hl
  obtain ⟨H, hHe⟩ : ∃ H : Heap, H = s.heap := ⟨_, rfl⟩
  rw [← hHe] at hP
  have hS : va_S (cA G S s.heap.size) s.heap H [] := by rw [hHe]; exact va_S.rf
  have hh : HS S S := HS.rf
  have hpp : PT S ≤ PT S := Nat.le_refl _
  have hB9 := hC.1
  refine W.heq hHe ?_
  refine c_ent (S := S) ?_
  obtain ⟨⟨k6, k7, k8, k9, k16, k14, k10, k11, k12, k13, k17, k18⟩, ⟨tT, tV, tB, tX⟩, tv, tr, ts⟩ := id hY
  refine lv_aload_n hx hb dX4_stage_0 rfl (lv_at hl 0 rfl) ?_
  refine va_get (D := gD G) (ci := 4) (v := .ref (kH S 12)) (C := RX4) (T := TX4) (N := 14) hx hb htu cu_in4 hown hK hP 2 cw_2 rfl 6 (by decide) (htu _ C_72) (fun _ h9 => h9) rfl dX4_stage_1 ?_
  refine lv_iload_n hx hb dX4_stage_4 rfl (lv_at hl 1 rfl) ?_
  have hC0 := hC
  refine c_cv (c_runV (As := [.int x]) (rest := []) (q0 := (2 * 12 + 13)) (ci := 0) ⟨hx, hb, hml, hown, htu⟩ (c_addA l G S 12 (lt35 (by decide)) hC (kH S 12) rfl x (show kK S 12 < lim 12 by rw [k12, lim_12]; omega) H) (cwV 1 htu hU_X4_73 rfl rfl rfl (by decide +kernel) ⟨Nat.le_of_ble_eq_true rfl, Nat.le_of_ble_eq_true rfl⟩) hP hK hD hC hpp (c_hd rfl (cw_row (lt35 (by decide)))) rfl rfl hl.1 rfl (lv_room (Nat.le_of_ble_eq_true rfl)) dX4_stage_5) hS hD hh hpp (fun S_2 H locs hw_3 hP hD hS hC hh hs_4 hpq => ?_)
  clear hpp
  have hpp := hpq
  clear hpq
  try dsimp only at hw_3
  have aw_5 : AW [12] [] S S_2 := (by obtain ⟨_, _, _, h9, -, -⟩ := hw_3; rw [h9]; exact AW.u (by decide))
  have aw_5t : AW [12, 13] [] S S_2 := AW.rf.tr (aw_5.mono (by decide) (by decide))
  have kk_6 : kK S_2 6 = T := (aw_5.2.1 6 (lt35 (by decide)) (by decide)).2.trans k6
  have kk_7 : kK S_2 7 = T := (aw_5.2.1 7 (lt35 (by decide)) (by decide)).2.trans k7
  have kk_8 : kK S_2 8 = T := (aw_5.2.1 8 (lt35 (by decide)) (by decide)).2.trans k8
  have kk_9 : kK S_2 9 = T := (aw_5.2.1 9 (lt35 (by decide)) (by decide)).2.trans k9
  have kk_10 : kK S_2 16 = T := (aw_5.2.1 16 (lt35 (by decide)) (by decide)).2.trans k16
  have kk_11 : kK S_2 14 = V := (aw_5.2.1 14 (lt35 (by decide)) (by decide)).2.trans k14
  have kk_12 : kK S_2 10 = X := (aw_5.2.1 10 (lt35 (by decide)) (by decide)).2.trans k10
  have kk_13 : kK S_2 11 = X := (aw_5.2.1 11 (lt35 (by decide)) (by decide)).2.trans k11
  have kk_14 : kK S_2 13 = Y := (aw_5.2.1 13 (lt35 (by decide)) (by decide)).2.trans k13
  have kk_15 : kK S_2 17 = Z := (aw_5.2.1 17 (lt35 (by decide)) (by decide)).2.trans k17
  have kk_16 : kK S_2 18 = Z := (aw_5.2.1 18 (lt35 (by decide)) (by decide)).2.trans k18
  obtain ⟨ad_17n, ad_17q, ad_17g, ad_17u, ad_171, ad_172⟩ := hw_3
  have kk_18 : kK S_2 12 = Y + 1 := by rw [ad_17u]; exact uR_K.trans (congrArg (· + 1) k12)
  obtain ⟨fF_19a, fF_19b⟩ := ad_F ad_17u ad_171 ad_172
  refine lv_aload_n hx hb dX4_stage_8 rfl (lv_at hl 0 rfl) ?_
  refine va_get (D := gD G) (ci := 4) (v := .ref (kH S 13)) (C := RX4) (T := TX4) (N := 14) hx hb htu cu_in4 hown hK hP 2 cw_2 rfl 7 (by decide) (htu _ C_73) (fun _ h9 => h9) (c_hv (hh.2 13 (lt35 (by decide)))) dX4_stage_9 ?_
  refine lv_iload_n hx hb dX4_stage_12 rfl (lv_at hl 2 rfl) ?_
  have hC0 := hC
  refine c_cv (c_runV (As := [.int y]) (rest := []) (q0 := (2 * 13 + 13)) (ci := 0) ⟨hx, hb, hml, hown, htu⟩ (c_addA l G S_2 13 (lt35 (by decide)) hC (kH S 13) (hh.2 13 (lt35 (by decide))) y (show kK S_2 13 < lim 13 by rw [kk_14, lim_13]; omega) H) (cwV 1 htu hU_X4_73 rfl rfl rfl (by decide +kernel) ⟨Nat.le_of_ble_eq_true rfl, Nat.le_of_ble_eq_true rfl⟩) hP hK hD hC hpp (c_hd (hh.2 13 (lt35 (by decide))) (cw_row (lt35 (by decide)))) rfl rfl hl.1 rfl (lv_room (Nat.le_of_ble_eq_true rfl)) dX4_stage_13) hS hD hh hpp (fun S_21 H locs hw_22 hP hD hS hC hh hs_23 hpq => ?_)
  clear hpp
  have hpp := hpq
  clear hpq
  try dsimp only at hw_22
  have aw_24 : AW [13] [] S_2 S_21 := (by obtain ⟨_, _, _, h9, -, -⟩ := hw_22; rw [h9]; exact AW.u (by decide))
  have aw_24t : AW [12, 13] [] S S_21 := aw_5t.tr (aw_24.mono (by decide) (by decide))
  have kk_25 : kK S_21 6 = T := (aw_24.2.1 6 (lt35 (by decide)) (by decide)).2.trans kk_6
  have kk_26 : kK S_21 7 = T := (aw_24.2.1 7 (lt35 (by decide)) (by decide)).2.trans kk_7
  have kk_27 : kK S_21 8 = T := (aw_24.2.1 8 (lt35 (by decide)) (by decide)).2.trans kk_8
  have kk_28 : kK S_21 9 = T := (aw_24.2.1 9 (lt35 (by decide)) (by decide)).2.trans kk_9
  have kk_29 : kK S_21 16 = T := (aw_24.2.1 16 (lt35 (by decide)) (by decide)).2.trans kk_10
  have kk_30 : kK S_21 14 = V := (aw_24.2.1 14 (lt35 (by decide)) (by decide)).2.trans kk_11
  have kk_31 : kK S_21 10 = X := (aw_24.2.1 10 (lt35 (by decide)) (by decide)).2.trans kk_12
  have kk_32 : kK S_21 11 = X := (aw_24.2.1 11 (lt35 (by decide)) (by decide)).2.trans kk_13
  have kk_33 : kK S_21 17 = Z := (aw_24.2.1 17 (lt35 (by decide)) (by decide)).2.trans kk_15
  have kk_34 : kK S_21 18 = Z := (aw_24.2.1 18 (lt35 (by decide)) (by decide)).2.trans kk_16
  have kk_35 : kK S_21 12 = Y + 1 := (aw_24.2.1 12 (lt35 (by decide)) (by decide)).2.trans kk_18
  obtain ⟨ad_36n, ad_36q, ad_36g, ad_36u, ad_361, ad_362⟩ := hw_22
  have kk_37 : kK S_21 13 = Y + 1 := by rw [ad_36u]; exact uR_K.trans (congrArg (· + 1) kk_14)
  obtain ⟨fF_38a, fF_38b⟩ := ad_F ad_36u ad_361 ad_362
  have e12o : kF S 12 = kF S 12 := rfl
  have e12k : kK S 12 = Y := k12
  have e12n : kF S_21 12 = kF S_2 12 := ((aw_24.2.1 12 (lt35 (by decide)) (by decide)).1.trans rfl)
  have e12a : ∀ j, j < Y → kF S_21 12 j = kF S 12 j := fun j hj => by rw [e12n, fF_19a j (by rw [e12k]; exact hj), e12o]
  have e12b : kF S_21 12 Y = x := by rw [e12n, ← e12k]; exact fF_19b
  have e13o : kF S_2 13 = kF S 13 := ((aw_5.2.1 13 (lt35 (by decide)) (by decide)).1.trans rfl)
  have e13k : kK S_2 13 = Y := ((aw_5.2.1 13 (lt35 (by decide)) (by decide)).2.trans k13)
  have e13n : kF S_21 13 = kF S_21 13 := rfl
  have e13a : ∀ j, j < Y → kF S_21 13 j = kF S 13 j := fun j hj => by rw [e13n, fF_38a j (by rw [e13k]; exact hj), e13o]
  have e13b : kF S_21 13 Y = y := by rw [e13n, ← e13k]; exact fF_38b
  exact c_vret hx hb hr hK hP hD hS hC hh hpp ⟨aw_24t, ⟨⟨⟨kk_25, kk_26, kk_27, kk_28, kk_29, kk_30, kk_31, kk_32, kk_35, kk_37, kk_33, kk_34⟩, ⟨tT, tV, Nat.le_trans tB aw_24t.2.2.2.1, tX⟩, by rw [(aw_24t.2.1 6 (by omega) (by decide)).1, (aw_24t.2.1 8 (by omega) (by decide)).1, (aw_24t.2.1 7 (by omega) (by decide)).1]; exact tv, by rw [(aw_24t.2.1 6 (by omega) (by decide)).1, (aw_24t.2.1 9 (by omega) (by decide)).1]; exact tr, by rw [(aw_24t.2.1 6 (by omega) (by decide)).1, (aw_24t.2.1 7 (by omega) (by decide)).1]; exact ts⟩, e12b, e13b, fun j hj => ⟨e12a j hj, e13a j hj⟩⟩⟩ dX4_stage_16 hlocks

set_option maxHeartbeats 4000000 in
set_option maxRecDepth 100000 in
/-- addType -/
theorem x_addType (l : Launch) (G : cG) (S : cS) (T : Nat) (V : Nat) (VP : Nat) (X : Nat) (Y : Nat) (Z : Nat) (VQ : Nat) (x : Int32) (lv : Int32) (y : Int32) (w : Int32) (hC : CL S) (hY : TY S T V VP X Y Z) (hVQ : VP ≤ VQ) (h4 : x = 4 → (∃ v, v < VQ ∧ y = nI v) ∧ 0 ≤ lv) (h3 : x = 3 → w ≤ 6) (h5 : x = 2 ∨ x = 3 ∨ x = 4 ∨ lv ≤ 0) (Hs : Heap) : Met l yX4_addType (wC yX4_addType cX4_addType 6 (some .int)) (cRm S 3 103) (cPc G S Hs [.ref (ga G 2), .int x, .int lv, .int y, .int w]) (cQi G S Hs (fun v u => AW [6, 7, 8, 9, 16] [] S u ∧ ((v = -6 ∧ u = S ∧ T = 602) ∨ (v = nI T ∧ T < 602 ∧ TY u (T + 1) V VQ X Y Z ∧ OC S u T ∧ kF u 6 T = x ∧ kF u 8 T = y ∧ AD S u T x lv y w ∧ (kF u 16 T = -9 ∧ ∀ t, t < T → kF u 16 t = kF S 16 t))))) (CC - PT S) (12 * (CC - PT S)) (cA G S Hs.size) := by
  refine Met.ofW (cc := cX4_addType) (maxL := 6) (ret := (some .int)) (by decide) rfl ?_
  intro p e s m args below meth c s₁ B hml hv
  obtain ⟨rfl, hsz, hP, hK, hD0, -⟩ := hv
  have hx := B.exec
  have hb := B.bytes
  have hr := B.returns
  have htu : ∀ w ∈ CU, w.before _ s = true := fun w h => atoms_spec (ws := (wC yX4_addType cX4_addType 6 (some .int))) B.pre w (List.mem_cons_of_mem _ h)
  have hown : s.vm.findClass RX4 = some m.cls := findClass_of_methodNamed B.named
  have hlocks := B.notSynchronized
  subst hsz
  have hD : cD (cA G S s.heap.size) G S := cD_self hD0
  have hl := lv_entry ([.ref (ga G 2), .int x, .int lv, .int y, .int w]) (n := 6) (Nat.le_of_ble_eq_true rfl)
  rw [lg_entry_eq]
  generalize (lg_sl ([.ref (ga G 2), .int x, .int lv, .int y, .int w]) ++ List.replicate (6 - (lg_sl ([.ref (ga G 2), .int x, .int lv, .int y, .int w])).length) Slot.unset).toArray = ls at hl ⊢
  have hl : lv_has ls 6 [(0, .ref (ga G 2)), (1, .int x), (2, .int lv), (3, .int y), (4, .int w)] := hl
  obtain ⟨H, hHe⟩ : ∃ H : Heap, H = s.heap := ⟨_, rfl⟩
  rw [← hHe] at hP
  have hS : va_S (cA G S s.heap.size) s.heap H [] := by rw [hHe]; exact va_S.rf
  have hh : HS S S := HS.rf
  have hpp : PT S ≤ PT S := Nat.le_refl _
  have hB9 := hC.1
  refine W.heq hHe ?_
  refine c_ent (S := S) ?_
  obtain ⟨⟨k6, k7, k8, k9, k16, k14, k10, k11, k12, k13, k17, k18⟩, ⟨tT, tV, tB, tX⟩, tv, tr, ts⟩ := id hY
  refine lv_aload_n hx hb dX4_addType_0 rfl (lv_at hl 0 rfl) ?_
  refine va_get (D := gD G) (ci := 4) (v := .ref (kH S 6)) (C := RX4) (T := TX4) (N := 14) hx hb htu cu_in4 hown hK hP 2 cw_2 rfl 0 (by decide) (htu _ C_66) (fun _ h9 => h9) rfl dX4_addType_1 ?_
  refine va_get (D := gD G) (ci := 0) (v := .int (nI T)) (C := RX0) (T := TX0) (N := 2) hx hb htu cu_in0 hown hK hP (2 * 6 + 13) (c_hd rfl (cw_row (lt35 (by decide)))) rfl 1 (by decide) (htu _ C_94) (fun _ h9 => h9) (m_v (congrArg nI k6)) dX4_addType_4 ?_
  refine lv_istore (lv' := [(5, .int (nI T)), (0, .ref (ga G 2)), (1, .int x), (2, .int lv), (3, .int y), (4, .int w)]) hx hb dX4_addType_7 hl (by decide) rfl (fun ls hl => ?_)
  refine lv_iload hx hb dX4_addType_9 (lv_at hl 0 rfl) ?_
  refine lv_sipush (v := 602) hx hb dX4_addType_11 (by decide) ?_
  refine lv_icmp_lt (tgt := 20) hx hb dX4_addType_14 (by decide) (fun c_1 => ?_) (fun c_1 => ?_)
  · skip
    have nc_1 : T < 602 := (nI_ltI (a := T) (b := 602) (by omega) (by omega)).mp c_1
    refine lv_aload_n hx hb dX4_addType_20 rfl (lv_at hl 1 rfl) ?_
    refine va_get (D := gD G) (ci := 4) (v := .ref (kH S 6)) (C := RX4) (T := TX4) (N := 14) hx hb htu cu_in4 hown hK hP 2 cw_2 rfl 0 (by decide) (htu _ C_66) (fun _ h9 => h9) rfl dX4_addType_21 ?_
    refine lv_iload_n hx hb dX4_addType_24 rfl (lv_at hl 2 rfl) ?_
    have hC0 := hC
    refine c_cv (c_runV (As := [.int x]) (rest := []) (q0 := (2 * 6 + 13)) (ci := 0) ⟨hx, hb, hml, hown, htu⟩ (c_addA l G S 6 (lt35 (by decide)) hC (kH S 6) rfl x (show kK S 6 < lim 6 by rw [k6, lim_6]; omega) H) (cwV 1 htu hU_X4_73 rfl rfl rfl (by decide +kernel) ⟨Nat.le_of_ble_eq_true rfl, Nat.le_of_ble_eq_true rfl⟩) hP hK hD hC hpp (c_hd rfl (cw_row (lt35 (by decide)))) rfl rfl hl.1 rfl (lv_room (Nat.le_of_ble_eq_true rfl)) dX4_addType_25) hS hD hh hpp (fun S_3 H locs hw_4 hP hD hS hC hh hs_5 hpq => ?_)
    clear hpp
    have hpp := hpq
    clear hpq
    try dsimp only at hw_4
    have aw_6 : AW [6] [] S S_3 := (by obtain ⟨_, _, _, h9, -, -⟩ := hw_4; rw [h9]; exact AW.u (by decide))
    have aw_6t : AW [6, 7, 8, 9, 16] [] S S_3 := AW.rf.tr (aw_6.mono (by decide) (by decide))
    have kk_7 : kK S_3 7 = T := (aw_6.2.1 7 (lt35 (by decide)) (by decide)).2.trans k7
    have kk_8 : kK S_3 8 = T := (aw_6.2.1 8 (lt35 (by decide)) (by decide)).2.trans k8
    have kk_9 : kK S_3 9 = T := (aw_6.2.1 9 (lt35 (by decide)) (by decide)).2.trans k9
    have kk_10 : kK S_3 16 = T := (aw_6.2.1 16 (lt35 (by decide)) (by decide)).2.trans k16
    have kk_11 : kK S_3 14 = V := (aw_6.2.1 14 (lt35 (by decide)) (by decide)).2.trans k14
    have kk_12 : kK S_3 10 = X := (aw_6.2.1 10 (lt35 (by decide)) (by decide)).2.trans k10
    have kk_13 : kK S_3 11 = X := (aw_6.2.1 11 (lt35 (by decide)) (by decide)).2.trans k11
    have kk_14 : kK S_3 12 = Y := (aw_6.2.1 12 (lt35 (by decide)) (by decide)).2.trans k12
    have kk_15 : kK S_3 13 = Y := (aw_6.2.1 13 (lt35 (by decide)) (by decide)).2.trans k13
    have kk_16 : kK S_3 17 = Z := (aw_6.2.1 17 (lt35 (by decide)) (by decide)).2.trans k17
    have kk_17 : kK S_3 18 = Z := (aw_6.2.1 18 (lt35 (by decide)) (by decide)).2.trans k18
    obtain ⟨ad_18n, ad_18q, ad_18g, ad_18u, ad_181, ad_182⟩ := hw_4
    have kk_19 : kK S_3 6 = T + 1 := by rw [ad_18u]; exact uR_K.trans (congrArg (· + 1) k6)
    obtain ⟨fF_20a, fF_20b⟩ := ad_F ad_18u ad_181 ad_182
    refine lv_aload_n hx hb dX4_addType_28 rfl (lv_at hl 1 rfl) ?_
    refine va_get (D := gD G) (ci := 4) (v := .ref (kH S 7)) (C := RX4) (T := TX4) (N := 14) hx hb htu cu_in4 hown hK hP 2 cw_2 rfl 1 (by decide) (htu _ C_67) (fun _ h9 => h9) (c_hv (hh.2 7 (lt35 (by decide)))) dX4_addType_29 ?_
    refine lv_iload_n hx hb dX4_addType_32 rfl (lv_at hl 3 rfl) ?_
    have hC0 := hC
    refine c_cv (c_runV (As := [.int lv]) (rest := []) (q0 := (2 * 7 + 13)) (ci := 0) ⟨hx, hb, hml, hown, htu⟩ (c_addA l G S_3 7 (lt35 (by decide)) hC (kH S 7) (hh.2 7 (lt35 (by decide))) lv (show kK S_3 7 < lim 7 by rw [kk_7, lim_7]; omega) H) (cwV 1 htu hU_X4_73 rfl rfl rfl (by decide +kernel) ⟨Nat.le_of_ble_eq_true rfl, Nat.le_of_ble_eq_true rfl⟩) hP hK hD hC hpp (c_hd (hh.2 7 (lt35 (by decide))) (cw_row (lt35 (by decide)))) rfl rfl hl.1 rfl (lv_room (Nat.le_of_ble_eq_true rfl)) dX4_addType_33) hS hD hh hpp (fun S_22 H locs hw_23 hP hD hS hC hh hs_24 hpq => ?_)
    clear hpp
    have hpp := hpq
    clear hpq
    try dsimp only at hw_23
    have aw_25 : AW [7] [] S_3 S_22 := (by obtain ⟨_, _, _, h9, -, -⟩ := hw_23; rw [h9]; exact AW.u (by decide))
    have aw_25t : AW [6, 7, 8, 9, 16] [] S S_22 := aw_6t.tr (aw_25.mono (by decide) (by decide))
    have kk_26 : kK S_22 8 = T := (aw_25.2.1 8 (lt35 (by decide)) (by decide)).2.trans kk_8
    have kk_27 : kK S_22 9 = T := (aw_25.2.1 9 (lt35 (by decide)) (by decide)).2.trans kk_9
    have kk_28 : kK S_22 16 = T := (aw_25.2.1 16 (lt35 (by decide)) (by decide)).2.trans kk_10
    have kk_29 : kK S_22 14 = V := (aw_25.2.1 14 (lt35 (by decide)) (by decide)).2.trans kk_11
    have kk_30 : kK S_22 10 = X := (aw_25.2.1 10 (lt35 (by decide)) (by decide)).2.trans kk_12
    have kk_31 : kK S_22 11 = X := (aw_25.2.1 11 (lt35 (by decide)) (by decide)).2.trans kk_13
    have kk_32 : kK S_22 12 = Y := (aw_25.2.1 12 (lt35 (by decide)) (by decide)).2.trans kk_14
    have kk_33 : kK S_22 13 = Y := (aw_25.2.1 13 (lt35 (by decide)) (by decide)).2.trans kk_15
    have kk_34 : kK S_22 17 = Z := (aw_25.2.1 17 (lt35 (by decide)) (by decide)).2.trans kk_16
    have kk_35 : kK S_22 18 = Z := (aw_25.2.1 18 (lt35 (by decide)) (by decide)).2.trans kk_17
    have kk_36 : kK S_22 6 = T + 1 := (aw_25.2.1 6 (lt35 (by decide)) (by decide)).2.trans kk_19
    obtain ⟨ad_37n, ad_37q, ad_37g, ad_37u, ad_371, ad_372⟩ := hw_23
    have kk_38 : kK S_22 7 = T + 1 := by rw [ad_37u]; exact uR_K.trans (congrArg (· + 1) kk_7)
    obtain ⟨fF_39a, fF_39b⟩ := ad_F ad_37u ad_371 ad_372
    refine lv_aload_n hx hb dX4_addType_36 rfl (lv_at hl 1 rfl) ?_
    refine va_get (D := gD G) (ci := 4) (v := .ref (kH S 8)) (C := RX4) (T := TX4) (N := 14) hx hb htu cu_in4 hown hK hP 2 cw_2 rfl 2 (by decide) (htu _ C_68) (fun _ h9 => h9) (c_hv (hh.2 8 (lt35 (by decide)))) dX4_addType_37 ?_
    refine lv_iload_n hx hb dX4_addType_40 rfl (lv_at hl 4 rfl) ?_
    have hC0 := hC
    refine c_cv (c_runV (As := [.int y]) (rest := []) (q0 := (2 * 8 + 13)) (ci := 0) ⟨hx, hb, hml, hown, htu⟩ (c_addA l G S_22 8 (lt35 (by decide)) hC (kH S 8) (hh.2 8 (lt35 (by decide))) y (show kK S_22 8 < lim 8 by rw [kk_26, lim_8]; omega) H) (cwV 1 htu hU_X4_73 rfl rfl rfl (by decide +kernel) ⟨Nat.le_of_ble_eq_true rfl, Nat.le_of_ble_eq_true rfl⟩) hP hK hD hC hpp (c_hd (hh.2 8 (lt35 (by decide))) (cw_row (lt35 (by decide)))) rfl rfl hl.1 rfl (lv_room (Nat.le_of_ble_eq_true rfl)) dX4_addType_41) hS hD hh hpp (fun S_41 H locs hw_42 hP hD hS hC hh hs_43 hpq => ?_)
    clear hpp
    have hpp := hpq
    clear hpq
    try dsimp only at hw_42
    have aw_44 : AW [8] [] S_22 S_41 := (by obtain ⟨_, _, _, h9, -, -⟩ := hw_42; rw [h9]; exact AW.u (by decide))
    have aw_44t : AW [6, 7, 8, 9, 16] [] S S_41 := aw_25t.tr (aw_44.mono (by decide) (by decide))
    have kk_45 : kK S_41 9 = T := (aw_44.2.1 9 (lt35 (by decide)) (by decide)).2.trans kk_27
    have kk_46 : kK S_41 16 = T := (aw_44.2.1 16 (lt35 (by decide)) (by decide)).2.trans kk_28
    have kk_47 : kK S_41 14 = V := (aw_44.2.1 14 (lt35 (by decide)) (by decide)).2.trans kk_29
    have kk_48 : kK S_41 10 = X := (aw_44.2.1 10 (lt35 (by decide)) (by decide)).2.trans kk_30
    have kk_49 : kK S_41 11 = X := (aw_44.2.1 11 (lt35 (by decide)) (by decide)).2.trans kk_31
    have kk_50 : kK S_41 12 = Y := (aw_44.2.1 12 (lt35 (by decide)) (by decide)).2.trans kk_32
    have kk_51 : kK S_41 13 = Y := (aw_44.2.1 13 (lt35 (by decide)) (by decide)).2.trans kk_33
    have kk_52 : kK S_41 17 = Z := (aw_44.2.1 17 (lt35 (by decide)) (by decide)).2.trans kk_34
    have kk_53 : kK S_41 18 = Z := (aw_44.2.1 18 (lt35 (by decide)) (by decide)).2.trans kk_35
    have kk_54 : kK S_41 6 = T + 1 := (aw_44.2.1 6 (lt35 (by decide)) (by decide)).2.trans kk_36
    have kk_55 : kK S_41 7 = T + 1 := (aw_44.2.1 7 (lt35 (by decide)) (by decide)).2.trans kk_38
    obtain ⟨ad_56n, ad_56q, ad_56g, ad_56u, ad_561, ad_562⟩ := hw_42
    have kk_57 : kK S_41 8 = T + 1 := by rw [ad_56u]; exact uR_K.trans (congrArg (· + 1) kk_26)
    obtain ⟨fF_58a, fF_58b⟩ := ad_F ad_56u ad_561 ad_562
    refine lv_aload_n hx hb dX4_addType_44 rfl (lv_at hl 1 rfl) ?_
    refine va_get (D := gD G) (ci := 4) (v := .ref (kH S 9)) (C := RX4) (T := TX4) (N := 14) hx hb htu cu_in4 hown hK hP 2 cw_2 rfl 3 (by decide) (htu _ C_69) (fun _ h9 => h9) (c_hv (hh.2 9 (lt35 (by decide)))) dX4_addType_45 ?_
    refine lv_iload hx hb dX4_addType_48 (lv_at hl 5 rfl) ?_
    have hC0 := hC
    refine c_cv (c_runV (As := [.int w]) (rest := []) (q0 := (2 * 9 + 13)) (ci := 0) ⟨hx, hb, hml, hown, htu⟩ (c_addA l G S_41 9 (lt35 (by decide)) hC (kH S 9) (hh.2 9 (lt35 (by decide))) w (show kK S_41 9 < lim 9 by rw [kk_45, lim_9]; omega) H) (cwV 1 htu hU_X4_73 rfl rfl rfl (by decide +kernel) ⟨Nat.le_of_ble_eq_true rfl, Nat.le_of_ble_eq_true rfl⟩) hP hK hD hC hpp (c_hd (hh.2 9 (lt35 (by decide))) (cw_row (lt35 (by decide)))) rfl rfl hl.1 rfl (lv_room (Nat.le_of_ble_eq_true rfl)) dX4_addType_50) hS hD hh hpp (fun S_60 H locs hw_61 hP hD hS hC hh hs_62 hpq => ?_)
    clear hpp
    have hpp := hpq
    clear hpq
    try dsimp only at hw_61
    have aw_63 : AW [9] [] S_41 S_60 := (by obtain ⟨_, _, _, h9, -, -⟩ := hw_61; rw [h9]; exact AW.u (by decide))
    have aw_63t : AW [6, 7, 8, 9, 16] [] S S_60 := aw_44t.tr (aw_63.mono (by decide) (by decide))
    have kk_64 : kK S_60 16 = T := (aw_63.2.1 16 (lt35 (by decide)) (by decide)).2.trans kk_46
    have kk_65 : kK S_60 14 = V := (aw_63.2.1 14 (lt35 (by decide)) (by decide)).2.trans kk_47
    have kk_66 : kK S_60 10 = X := (aw_63.2.1 10 (lt35 (by decide)) (by decide)).2.trans kk_48
    have kk_67 : kK S_60 11 = X := (aw_63.2.1 11 (lt35 (by decide)) (by decide)).2.trans kk_49
    have kk_68 : kK S_60 12 = Y := (aw_63.2.1 12 (lt35 (by decide)) (by decide)).2.trans kk_50
    have kk_69 : kK S_60 13 = Y := (aw_63.2.1 13 (lt35 (by decide)) (by decide)).2.trans kk_51
    have kk_70 : kK S_60 17 = Z := (aw_63.2.1 17 (lt35 (by decide)) (by decide)).2.trans kk_52
    have kk_71 : kK S_60 18 = Z := (aw_63.2.1 18 (lt35 (by decide)) (by decide)).2.trans kk_53
    have kk_72 : kK S_60 6 = T + 1 := (aw_63.2.1 6 (lt35 (by decide)) (by decide)).2.trans kk_54
    have kk_73 : kK S_60 7 = T + 1 := (aw_63.2.1 7 (lt35 (by decide)) (by decide)).2.trans kk_55
    have kk_74 : kK S_60 8 = T + 1 := (aw_63.2.1 8 (lt35 (by decide)) (by decide)).2.trans kk_57
    obtain ⟨ad_75n, ad_75q, ad_75g, ad_75u, ad_751, ad_752⟩ := hw_61
    have kk_76 : kK S_60 9 = T + 1 := by rw [ad_75u]; exact uR_K.trans (congrArg (· + 1) kk_45)
    obtain ⟨fF_77a, fF_77b⟩ := ad_F ad_75u ad_751 ad_752
    refine lv_aload_n hx hb dX4_addType_53 rfl (lv_at hl 1 rfl) ?_
    refine va_get (D := gD G) (ci := 4) (v := .ref (kH S 16)) (C := RX4) (T := TX4) (N := 14) hx hb htu cu_in4 hown hK hP 2 cw_2 rfl 11 (by decide) (htu _ C_77) (fun _ h9 => h9) (c_hv (hh.2 16 (lt35 (by decide)))) dX4_addType_54 ?_
    refine lv_bipush (v := (-9)) hx hb dX4_addType_57 (by decide) ?_
    have hC0 := hC
    refine c_cv (c_runV (As := [.int ((-9))]) (rest := []) (q0 := (2 * 16 + 13)) (ci := 0) ⟨hx, hb, hml, hown, htu⟩ (c_addA l G S_60 16 (lt35 (by decide)) hC (kH S 16) (hh.2 16 (lt35 (by decide))) ((-9)) (show kK S_60 16 < lim 16 by rw [kk_64, lim_16]; omega) H) (cwV 1 htu hU_X4_73 rfl rfl rfl (by decide +kernel) ⟨Nat.le_of_ble_eq_true rfl, Nat.le_of_ble_eq_true rfl⟩) hP hK hD hC hpp (c_hd (hh.2 16 (lt35 (by decide))) (cw_row (lt35 (by decide)))) rfl rfl hl.1 rfl (lv_room (Nat.le_of_ble_eq_true rfl)) dX4_addType_59) hS hD hh hpp (fun S_79 H locs hw_80 hP hD hS hC hh hs_81 hpq => ?_)
    clear hpp
    have hpp := hpq
    clear hpq
    try dsimp only at hw_80
    have aw_82 : AW [16] [] S_60 S_79 := (by obtain ⟨_, _, _, h9, -, -⟩ := hw_80; rw [h9]; exact AW.u (by decide))
    have aw_82t : AW [6, 7, 8, 9, 16] [] S S_79 := aw_63t.tr (aw_82.mono (by decide) (by decide))
    have kk_83 : kK S_79 14 = V := (aw_82.2.1 14 (lt35 (by decide)) (by decide)).2.trans kk_65
    have kk_84 : kK S_79 10 = X := (aw_82.2.1 10 (lt35 (by decide)) (by decide)).2.trans kk_66
    have kk_85 : kK S_79 11 = X := (aw_82.2.1 11 (lt35 (by decide)) (by decide)).2.trans kk_67
    have kk_86 : kK S_79 12 = Y := (aw_82.2.1 12 (lt35 (by decide)) (by decide)).2.trans kk_68
    have kk_87 : kK S_79 13 = Y := (aw_82.2.1 13 (lt35 (by decide)) (by decide)).2.trans kk_69
    have kk_88 : kK S_79 17 = Z := (aw_82.2.1 17 (lt35 (by decide)) (by decide)).2.trans kk_70
    have kk_89 : kK S_79 18 = Z := (aw_82.2.1 18 (lt35 (by decide)) (by decide)).2.trans kk_71
    have kk_90 : kK S_79 6 = T + 1 := (aw_82.2.1 6 (lt35 (by decide)) (by decide)).2.trans kk_72
    have kk_91 : kK S_79 7 = T + 1 := (aw_82.2.1 7 (lt35 (by decide)) (by decide)).2.trans kk_73
    have kk_92 : kK S_79 8 = T + 1 := (aw_82.2.1 8 (lt35 (by decide)) (by decide)).2.trans kk_74
    have kk_93 : kK S_79 9 = T + 1 := (aw_82.2.1 9 (lt35 (by decide)) (by decide)).2.trans kk_76
    obtain ⟨ad_94n, ad_94q, ad_94g, ad_94u, ad_941, ad_942⟩ := hw_80
    have kk_95 : kK S_79 16 = T + 1 := by rw [ad_94u]; exact uR_K.trans (congrArg (· + 1) kk_64)
    obtain ⟨fF_96a, fF_96b⟩ := ad_F ad_94u ad_941 ad_942
    refine lv_iload hx hb dX4_addType_62 (lv_at hl 0 rfl) ?_
    have e6o : kF S 6 = kF S 6 := rfl
    have e6k : kK S 6 = T := k6
    have e6n : kF S_79 6 = kF S_3 6 := ((aw_82.2.1 6 (lt35 (by decide)) (by decide)).1.trans ((aw_63.2.1 6 (lt35 (by decide)) (by decide)).1.trans ((aw_44.2.1 6 (lt35 (by decide)) (by decide)).1.trans ((aw_25.2.1 6 (lt35 (by decide)) (by decide)).1.trans rfl))))
    have e6a : ∀ j, j < T → kF S_79 6 j = kF S 6 j := fun j hj => by rw [e6n, fF_20a j (by rw [e6k]; exact hj), e6o]
    have e6b : kF S_79 6 T = x := by rw [e6n, ← e6k]; exact fF_20b
    have e7o : kF S_3 7 = kF S 7 := ((aw_6.2.1 7 (lt35 (by decide)) (by decide)).1.trans rfl)
    have e7k : kK S_3 7 = T := ((aw_6.2.1 7 (lt35 (by decide)) (by decide)).2.trans k7)
    have e7n : kF S_79 7 = kF S_22 7 := ((aw_82.2.1 7 (lt35 (by decide)) (by decide)).1.trans ((aw_63.2.1 7 (lt35 (by decide)) (by decide)).1.trans ((aw_44.2.1 7 (lt35 (by decide)) (by decide)).1.trans rfl)))
    have e7a : ∀ j, j < T → kF S_79 7 j = kF S 7 j := fun j hj => by rw [e7n, fF_39a j (by rw [e7k]; exact hj), e7o]
    have e7b : kF S_79 7 T = lv := by rw [e7n, ← e7k]; exact fF_39b
    have e8o : kF S_22 8 = kF S 8 := ((aw_25.2.1 8 (lt35 (by decide)) (by decide)).1.trans ((aw_6.2.1 8 (lt35 (by decide)) (by decide)).1.trans rfl))
    have e8k : kK S_22 8 = T := ((aw_25.2.1 8 (lt35 (by decide)) (by decide)).2.trans ((aw_6.2.1 8 (lt35 (by decide)) (by decide)).2.trans k8))
    have e8n : kF S_79 8 = kF S_41 8 := ((aw_82.2.1 8 (lt35 (by decide)) (by decide)).1.trans ((aw_63.2.1 8 (lt35 (by decide)) (by decide)).1.trans rfl))
    have e8a : ∀ j, j < T → kF S_79 8 j = kF S 8 j := fun j hj => by rw [e8n, fF_58a j (by rw [e8k]; exact hj), e8o]
    have e8b : kF S_79 8 T = y := by rw [e8n, ← e8k]; exact fF_58b
    have e9o : kF S_41 9 = kF S 9 := ((aw_44.2.1 9 (lt35 (by decide)) (by decide)).1.trans ((aw_25.2.1 9 (lt35 (by decide)) (by decide)).1.trans ((aw_6.2.1 9 (lt35 (by decide)) (by decide)).1.trans rfl)))
    have e9k : kK S_41 9 = T := ((aw_44.2.1 9 (lt35 (by decide)) (by decide)).2.trans ((aw_25.2.1 9 (lt35 (by decide)) (by decide)).2.trans ((aw_6.2.1 9 (lt35 (by decide)) (by decide)).2.trans k9)))
    have e9n : kF S_79 9 = kF S_60 9 := ((aw_82.2.1 9 (lt35 (by decide)) (by decide)).1.trans rfl)
    have e9a : ∀ j, j < T → kF S_79 9 j = kF S 9 j := fun j hj => by rw [e9n, fF_77a j (by rw [e9k]; exact hj), e9o]
    have e9b : kF S_79 9 T = w := by rw [e9n, ← e9k]; exact fF_77b
    have e16o : kF S_60 16 = kF S 16 := ((aw_63.2.1 16 (lt35 (by decide)) (by decide)).1.trans ((aw_44.2.1 16 (lt35 (by decide)) (by decide)).1.trans ((aw_25.2.1 16 (lt35 (by decide)) (by decide)).1.trans ((aw_6.2.1 16 (lt35 (by decide)) (by decide)).1.trans rfl))))
    have e16k : kK S_60 16 = T := ((aw_63.2.1 16 (lt35 (by decide)) (by decide)).2.trans ((aw_44.2.1 16 (lt35 (by decide)) (by decide)).2.trans ((aw_25.2.1 16 (lt35 (by decide)) (by decide)).2.trans ((aw_6.2.1 16 (lt35 (by decide)) (by decide)).2.trans k16))))
    have e16n : kF S_79 16 = kF S_79 16 := rfl
    have e16a : ∀ j, j < T → kF S_79 16 j = kF S 16 j := fun j hj => by rw [e16n, fF_96a j (by rw [e16k]; exact hj), e16o]
    have e16b : kF S_79 16 T = -9 := by rw [e16n, ← e16k]; exact fF_96b
    have hnew : TY S_79 (T + 1) V VQ X Y Z := by
      refine ⟨⟨kk_90, kk_91, kk_92, kk_93, kk_95, kk_83, kk_84, kk_85, kk_86, kk_87, kk_88, kk_89⟩, ⟨Nat.succ_le_of_lt nc_1, tV, Nat.le_trans tB aw_82t.2.2.2.1, Nat.le_trans tX (Nat.mul_le_mul_left 6 (Nat.le_succ T))⟩, fun t ht h => ?_, fun t ht h => ?_, fun t ht => ?_⟩
      · rcases Nat.lt_or_ge t T with h1 | h1
        · rw [e6a t h1] at h
          obtain ⟨⟨v, hv1, hv2⟩, hv3⟩ := tv t h1 h
          exact ⟨⟨v, Nat.lt_of_lt_of_le hv1 hVQ, by rw [e8a t h1]; exact hv2⟩, by rw [e7a t h1]; exact hv3⟩
        · have ht2 : t = T := Nat.le_antisymm (Nat.le_of_lt_succ ht) h1
          rw [ht2, e6b] at h
          rw [ht2, e8b, e7b]
          exact h4 h
      · rcases Nat.lt_or_ge t T with h1 | h1
        · rw [e6a t h1] at h
          rw [e9a t h1]
          exact tr t h1 h
        · have ht2 : t = T := Nat.le_antisymm (Nat.le_of_lt_succ ht) h1
          rw [ht2, e6b] at h
          rw [ht2, e9b]
          exact h3 h
      · rcases Nat.lt_or_ge t T with h1 | h1
        · rw [e6a t h1, e7a t h1]
          exact ts t h1
        · have ht2 : t = T := Nat.le_antisymm (Nat.le_of_lt_succ ht) h1
          rw [ht2, e6b, e7b]
          exact h5
    exact c_iret (v := nI T) hx hb hr hK hP hD hS hC hh hpp ⟨aw_82t, (Or.inr ⟨rfl, nc_1, hnew, (fun t ht => ⟨e6a t ht, e8a t ht⟩), e6b, e8b, ⟨⟨kk_90, kk_91, kk_92, kk_93⟩, ⟨e6b, e7b, e8b, e9b⟩, fun t ht => ⟨e6a t ht, e7a t ht, e8a t ht, e9a t ht⟩⟩, e16b, fun t ht => e16a t ht⟩)⟩ dX4_addType_64 hlocks
  · skip
    have nc_1 : ¬ T < 602 := fun h9 => c_1 ((nI_ltI (a := T) (b := 602) (by omega) (by omega)).mpr h9)
    refine lv_bipush (v := (-6)) hx hb dX4_addType_17 (by decide) ?_
    exact c_iret (v := (-6)) hx hb hr hK hP hD hS hC hh hpp ⟨AW.rf, (Or.inl ⟨rfl, rfl, Nat.le_antisymm tT (Nat.not_lt.mp nc_1)⟩)⟩ dX4_addType_19 hlocks

set_option maxHeartbeats 4000000 in
set_option maxRecDepth 100000 in
/-- addFunction -/
theorem x_addFunction (l : Launch) (G : cG) (S : cS) (T : Nat) (V : Nat) (VP : Nat) (X : Nat) (Y : Nat) (Z : Nat) (a9 : Nat) (b9 : Nat) (z : aS) (hC : CL S) (hY : TY S T V VP X Y Z) (hz : KT S z) (h0 : sto z = 0) (ha : a9 < nT z) (hb9 : b9 < nT z) (Hs : Heap) : Met l yX4_addFunction (wC yX4_addFunction cX4_addFunction 3 (some .int)) (cRm S 4 128) (cPc G S Hs [.ref (ga G 2), .int (nI a9), .int (nI b9)]) (cQi G S Hs (fun v u => AW [6, 7, 8, 9, 16] [] S u ∧ ((v = -6 ∧ u = S ∧ nT z = 602) ∨ (v = nI T ∧ T < 602 ∧ TY u (T + 1) V VP X Y Z ∧ OC S u T ∧ (KT u (mkA z a9 b9).1 ∧ (mkA z a9 b9).2 = T ∧ sto (mkA z a9 b9).1 = 0) ∧ (kF u 16 T = -9 ∧ ∀ t, t < T → kF u 16 t = kF S 16 t))))) (CC - PT S) (12 * (CC - PT S)) (cA G S Hs.size) := by
  refine Met.ofW (cc := cX4_addFunction) (maxL := 3) (ret := (some .int)) (by decide) rfl ?_
  intro p e s m args below meth c s₁ B hml hv
  obtain ⟨rfl, hsz, hP, hK, hD0, -⟩ := hv
  have hx := B.exec
  have hb := B.bytes
  have hr := B.returns
  have htu : ∀ w ∈ CU, w.before _ s = true := fun w h => atoms_spec (ws := (wC yX4_addFunction cX4_addFunction 3 (some .int))) B.pre w (List.mem_cons_of_mem _ h)
  have hown : s.vm.findClass RX4 = some m.cls := findClass_of_methodNamed B.named
  have hlocks := B.notSynchronized
  subst hsz
  have hD : cD (cA G S s.heap.size) G S := cD_self hD0
  have hl := lv_entry ([.ref (ga G 2), .int (nI a9), .int (nI b9)]) (n := 3) (Nat.le_of_ble_eq_true rfl)
  rw [lg_entry_eq]
  generalize (lg_sl ([.ref (ga G 2), .int (nI a9), .int (nI b9)]) ++ List.replicate (3 - (lg_sl ([.ref (ga G 2), .int (nI a9), .int (nI b9)])).length) Slot.unset).toArray = ls at hl ⊢
  have hl : lv_has ls 3 [(0, .ref (ga G 2)), (1, .int (nI a9)), (2, .int (nI b9))] := hl
  obtain ⟨H, hHe⟩ : ∃ H : Heap, H = s.heap := ⟨_, rfl⟩
  rw [← hHe] at hP
  have hS : va_S (cA G S s.heap.size) s.heap H [] := by rw [hHe]; exact va_S.rf
  have hh : HS S S := HS.rf
  have hpp : PT S ≤ PT S := Nat.le_refl _
  have hB9 := hC.1
  refine W.heq hHe ?_
  refine c_ent (S := S) ?_
  obtain ⟨⟨k6, k7, k8, k9, k16, k14, k10, k11, k12, k13, k17, k18⟩, ⟨tT, tV, tB, tX⟩, tv, tr, ts⟩ := id hY
  have hTz : nT z = T := hz.1.1.symm.trans k6
  refine lv_aload_n hx hb dX4_addFunction_0 rfl (lv_at hl 0 rfl) ?_
  refine lv_iconst (v := 2) hx hb dX4_addFunction_1 (by decide) ?_
  refine lv_aload_n hx hb dX4_addFunction_2 rfl (lv_at hl 0 rfl) ?_
  refine lv_iload_n hx hb dX4_addFunction_3 rfl (lv_at hl 1 rfl) ?_
  have hC0 := hC
  refine c_ci (c_runV (As := [.int (nI a9)]) (rest := [.int 2, .ref (ga G 2)]) (q0 := 2) (ci := 4) ⟨hx, hb, hml, hown, htu⟩ (y_levelOf l G S (nI a9) hC  H) (cwV 1 htu hU_X4_79 rfl rfl rfl (by decide +kernel) ⟨Nat.le_of_ble_eq_true rfl, Nat.le_of_ble_eq_true rfl⟩) hP hK hD hC hpp cw_2 rfl rfl hl.1 rfl (lv_room (Nat.le_of_ble_eq_true rfl)) dX4_addFunction_4) hS hD hh hpp (fun r_1 S_2 H locs hw_3 hP hD hS hC hh hs_4 hpq => ?_)
  clear hpp
  have hpp := hpq
  clear hpq
  obtain ⟨-, hu9, hw_3⟩ := hw_3
  have hu9 := hu9.symm
  subst hu9
  obtain rfl : r_1 = nI (lev z a9) := hw_3.trans (hz.rl ha)
  refine lv_aload_n hx hb dX4_addFunction_7 rfl (lv_at hl 0 rfl) ?_
  refine lv_iload_n hx hb dX4_addFunction_8 rfl (lv_at hl 2 rfl) ?_
  have hC0 := hC
  refine c_ci (c_runV (As := [.int (nI b9)]) (rest := [.int (nI (lev z a9)), .int 2, .ref (ga G 2)]) (q0 := 2) (ci := 4) ⟨hx, hb, hml, hown, htu⟩ (y_levelOf l G S (nI b9) hC  H) (cwV 1 htu hU_X4_79 rfl rfl rfl (by decide +kernel) ⟨Nat.le_of_ble_eq_true rfl, Nat.le_of_ble_eq_true rfl⟩) hP hK hD hC hpp cw_2 rfl rfl hl.1 rfl (lv_room (Nat.le_of_ble_eq_true rfl)) dX4_addFunction_9) hS hD hh hpp (fun r_5 S_6 H locs hw_7 hP hD hS hC hh hs_8 hpq => ?_)
  clear hpp
  have hpp := hpq
  clear hpq
  obtain ⟨-, hu9, hw_7⟩ := hw_7
  have hu9 := hu9.symm
  subst hu9
  obtain rfl : r_5 = nI (lev z b9) := hw_7.trans (hz.rl hb9)
  refine va_mmax hx hb (by rw [hml]; exact hl.1.symm) hown (htu _ C_338) (htu _ C_139) (htu _ C_111) (htu _ C_140) (Nat.le_of_ble_eq_true rfl) (Nat.le_of_ble_eq_true rfl) (c_b1 hpp hC) (c_b2 hpp hC) dX4_addFunction_12 ?_
  refine lv_topi (fun f_9 ef_9 => ?_)
  obtain rfl : f_9 = nI (max (lev z a9) (lev z b9)) := ef_9.trans (imax (by have := hz.lv ha; omega) (by have := hz.lv hb9; omega))
  refine lv_iload_n hx hb dX4_addFunction_15 rfl (lv_at hl 1 rfl) ?_
  refine lv_iload_n hx hb dX4_addFunction_16 rfl (lv_at hl 2 rfl) ?_
  have hC0 := hC
  refine c_ci (c_runV (As := [.int 2, .int (nI (max (lev z a9) (lev z b9))), .int (nI a9), .int (nI b9)]) (rest := []) (q0 := 2) (ci := 4) ⟨hx, hb, hml, hown, htu⟩ (x_addType l G S T V VP X Y Z VP 2 (nI (max (lev z a9) (lev z b9))) (nI a9) (nI b9) hC hY ((Nat.le_refl _)) ((fun h => absurd h (by decide))) ((fun h => absurd h (by decide))) ((Or.inl rfl)) H) (cwV 4 htu hU_X4_65 rfl rfl rfl (by decide +kernel) ⟨Nat.le_of_ble_eq_true rfl, Nat.le_of_ble_eq_true rfl⟩) hP hK hD hC hpp cw_2 rfl rfl hl.1 rfl (lv_room (Nat.le_of_ble_eq_true rfl)) dX4_addFunction_17) hS hD hh hpp (fun r_10 S_11 H locs hw_12 hP hD hS hC hh hs_13 hpq => ?_)
  clear hpp
  have hpp := hpq
  clear hpq
  try dsimp only at hw_12
  have aw_14 : AW [6, 7, 8, 9, 16] [] S S_11 := hw_12.1
  have aw_14t : AW [6, 7, 8, 9, 16] [] S S_11 := AW.rf.tr (aw_14.mono (by decide) (by decide))
  have hw_129 := hw_12.2
  clear hw_12
  rcases hw_129 with ⟨ty_15v, ty_15s, ty_15f⟩ | ⟨ty_15v, ty_15t, ty_15, ty_15o, ty_154, ty_158, ty_15a, ty_15l⟩
  · skip
    subst ty_15v
    exact c_iret (v := (-6)) hx hb hr hK hP hD hS hC hh hpp ⟨aw_14t, (Or.inl ⟨rfl, ty_15s, hTz.trans ty_15f⟩)⟩ dX4_addFunction_20 hlocks
  · skip
    subst ty_15v
    exact c_iret (v := nI T) hx hb hr hK hP hD hS hC hh hpp ⟨aw_14t, (Or.inr ⟨rfl, ty_15t, ty_15, ty_15o, by rw [← hTz]; exact kt_mkA hz h0 (by rw [hTz]; exact ty_15t) ha hb9 (by rw [hTz]; exact ty_15a) aw_14t, ty_15l⟩)⟩ dX4_addFunction_20 hlocks

