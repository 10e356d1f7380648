set_option maxHeartbeats 4000000 in
set_option maxRecDepth 100000 in
/-- startCopying -/
theorem x_startCopying (l : Launch) (G : cG) (S : cS) (x : Int32) (y : Int32) (tm : Nat) (hC : CL S) (h8 : S.1 8 = nI tm) (htm : tm < 2 ^ 31 - 2) (Hs : Heap) : Met l yX5_startCopying (wC yX5_startCopying cX5_startCopying 3 none) (cRm S 0 0) (cPc G S Hs [.ref (ga G 4), .int x, .int y]) (cQv G S Hs (fun u => AW [] [8, 9, 10] S u ∧ (u.1 8 = nI (tm + 1) ∧ u.1 9 = x ∧ u.1 10 = y))) (CC - PT S) (12 * (CC - PT S)) (cA G S Hs.size) := by
  refine Met.ofW (cc := cX5_startCopying) (maxL := 3) (ret := none) (by decide) rfl ?_
  intro p e s m args below meth c s₁ B hml hv
  obtain ⟨rfl, hsz, hP, hK, hD0, -⟩ := hv
  have hx := B.exec
  have hb := B.bytes
  have hr := B.returns
  have htu : ∀ w ∈ CU, w.before _ s = true := fun w h => atoms_spec (ws := (wC yX5_startCopying cX5_startCopying 3 none)) B.pre w (List.mem_cons_of_mem _ h)
  have hown : s.vm.findClass RX5 = some m.cls := findClass_of_methodNamed B.named
  have hlocks := B.notSynchronized
  subst hsz
  have hD : cD (cA G S s.heap.size) G S := cD_self hD0
  have hl := lv_entry ([.ref (ga G 4), .int x, .int y]) (n := 3) (Nat.le_of_ble_eq_true rfl)
  rw [lg_entry_eq]
  generalize (lg_sl ([.ref (ga G 4), .int x, .int y]) ++ List.replicate (3 - (lg_sl ([.ref (ga G 4), .int x, .int y])).length) Slot.unset).toArray = ls at hl ⊢
  have hl : lv_has ls 3 [(0, .ref (ga G 4)), (1, .int x), (2, .int y)] := hl
  obtain ⟨H, hHe⟩ : ∃ H : Heap, H = s.heap := ⟨_, rfl⟩
  rw [← hHe] at hP
  have hS : va_S (cA G S s.heap.size) s.heap H [] := by rw [hHe]; exact va_S.rf
  have hh : HS S S := HS.rf
  have hpp : PT S ≤ PT S := Nat.le_refl _
  have hB9 := hC.1
  refine W.heq hHe ?_
  refine c_ent (S := S) ?_
  refine lv_aload_n hx hb dX5_startCopying_0 rfl (lv_at hl 0 rfl) ?_
  refine lv_dup hx hb dX5_startCopying_1 rfl ?_
  refine va_get (D := gD G) (ci := 5) (v := .int (nI tm)) (C := RX5) (T := TX5) (N := 15) hx hb htu cu_in5 hown hK hP 4 cw_4 rfl 8 (by decide) (htu _ C_306) (fun _ h9 => h9) (m_v h8) dX5_startCopying_2 ?_
  refine lv_iconst (v := 1) hx hb dX5_startCopying_5 (by decide) ?_
  refine lv_iadd hx hb dX5_startCopying_6 ?_
  refine m_top (y := nI (tm + 1)) (nI_add tm 1) ?_
  refine c_put4_8 (x := (nI (tm + 1))) hx hb htu hown hK hP hD hS (htu _ C_306) dX5_startCopying_7 (fun H locs hP hD hS => ?_)
  have S_1h : HS S (cO S 8 (nI (tm + 1))) := hh
  have S_1c : CL (cO S 8 (nI (tm + 1))) := hC
  have S_1p : PT S ≤ PT (cO S 8 (nI (tm + 1))) := hpp
  refine c_eq (S1 := S) (S2 := cO S 8 (nI (tm + 1))) rfl ?_
  have S_1w : AW [] [8, 9, 10] S (cO S 8 (nI (tm + 1))) := (AW.o AW.rf (by decide))
  have hh := S_1h
  have hC := S_1c
  clear hpp
  have hpp := S_1p
  clear S_1p
  refine lv_aload_n hx hb dX5_startCopying_10 rfl (lv_at hl 0 rfl) ?_
  refine lv_iload_n hx hb dX5_startCopying_11 rfl (lv_at hl 1 rfl) ?_
  refine c_put4_9 (x := x) hx hb htu hown hK hP hD hS (htu _ C_307) dX5_startCopying_12 (fun H locs hP hD hS => ?_)
  have S_2h : HS S (cO (cO S 8 (nI (tm + 1))) 9 x) := hh
  have S_2c : CL (cO (cO S 8 (nI (tm + 1))) 9 x) := hC
  have S_2p : PT S ≤ PT (cO (cO S 8 (nI (tm + 1))) 9 x) := hpp
  refine c_eq (S1 := (cO S 8 (nI (tm + 1)))) (S2 := cO (cO S 8 (nI (tm + 1))) 9 x) rfl ?_
  have S_2w : AW [] [8, 9, 10] S (cO (cO S 8 (nI (tm + 1))) 9 x) := (AW.o S_1w (by decide))
  have hh := S_2h
  have hC := S_2c
  clear hpp
  have hpp := S_2p
  clear S_2p
  refine lv_aload_n hx hb dX5_startCopying_15 rfl (lv_at hl 0 rfl) ?_
  refine lv_iload_n hx hb dX5_startCopying_16 rfl (lv_at hl 2 rfl) ?_
  refine c_put4_10 (x := y) hx hb htu hown hK hP hD hS (htu _ C_308) dX5_startCopying_17 (fun H locs hP hD hS => ?_)
  have S_3h : HS S (cO (cO (cO S 8 (nI (tm + 1))) 9 x) 10 y) := hh
  have S_3c : CL (cO (cO (cO S 8 (nI (tm + 1))) 9 x) 10 y) := hC
  have S_3p : PT S ≤ PT (cO (cO (cO S 8 (nI (tm + 1))) 9 x) 10 y) := hpp
  refine c_eq (S1 := (cO (cO S 8 (nI (tm + 1))) 9 x)) (S2 := cO (cO (cO S 8 (nI (tm + 1))) 9 x) 10 y) rfl ?_
  have S_3w : AW [] [8, 9, 10] S (cO (cO (cO S 8 (nI (tm + 1))) 9 x) 10 y) := (AW.o S_2w (by decide))
  have hh := S_3h
  have hC := S_3c
  clear hpp
  have hpp := S_3p
  clear S_3p
  exact c_vret hx hb hr hK hP hD hS hC hh hpp ⟨S_3w, ⟨((cO_n (show 8 ≠ 10 by decide)).trans ((cO_n (show 8 ≠ 9 by decide)).trans cO_s)), ((cO_n (show 9 ≠ 10 by decide)).trans cO_s), cO_s⟩⟩ dX5_startCopying_20 hlocks

set_option maxHeartbeats 4000000 in
set_option maxRecDepth 100000 in
/-- gives -/
theorem xk_gives (l : Launch) (G : cG) (S : cS) (n9 : Nat) (y : Int32) (w : Int32) (hC : CL S) (k23 : kK S 23 = 120) (k24 : kK S 24 = 120) (hn : n9 < 120) (Hs : Heap) : Met l yX5_gives (wC yX5_gives cX5_gives 4 none) (cRm S 1 22) (cPc G S Hs [.ref (ga G 4), .int (nI n9), .int y, .int w]) (cQv G S Hs (fun u => AW [23, 24] [] S u ∧ ((kK u 23 = 120 ∧ kK u 24 = 120) ∧ kF u 23 = upd (kF S 23) n9 y ∧ kF u 24 = upd (kF S 24) n9 w))) (CC - PT S) (12 * (CC - PT S)) (cA G S Hs.size) := by
  refine Met.ofW (cc := cX5_gives) (maxL := 4) (ret := none) (by decide) rfl ?_
  intro p e s m args below meth c s₁ B hml hv
  obtain ⟨rfl, hsz, hP, hK, hD0, -⟩ := hv
  have hx := B.exec
  have hb := B.bytes
  have hr := B.returns
  have htu : ∀ w ∈ CU, w.before _ s = true := fun w h => atoms_spec (ws := (wC yX5_gives cX5_gives 4 none)) B.pre w (List.mem_cons_of_mem _ h)
  have hown : s.vm.findClass RX5 = some m.cls := findClass_of_methodNamed B.named
  have hlocks := B.notSynchronized
  subst hsz
  have hD : cD (cA G S s.heap.size) G S := cD_self hD0
  have hl := lv_entry ([.ref (ga G 4), .int (nI n9), .int y, .int w]) (n := 4) (Nat.le_of_ble_eq_true rfl)
  rw [lg_entry_eq]
  generalize (lg_sl ([.ref (ga G 4), .int (nI n9), .int y, .int w]) ++ List.replicate (4 - (lg_sl ([.ref (ga G 4), .int (nI n9), .int y, .int w])).length) Slot.unset).toArray = ls at hl ⊢
  have hl : lv_has ls 4 [(0, .ref (ga G 4)), (1, .int (nI n9)), (2, .int y), (3, .int w)] := hl
  obtain ⟨H, hHe⟩ : ∃ H : Heap, H = s.heap := ⟨_, rfl⟩
  rw [← hHe] at hP
  have hS : va_S (cA G S s.heap.size) s.heap H [] := by rw [hHe]; exact va_S.rf
  have hh : HS S S := HS.rf
  have hpp : PT S ≤ PT S := Nat.le_refl _
  have hB9 := hC.1
  refine W.heq hHe ?_
  refine c_ent (S := S) ?_
  refine lv_aload_n hx hb dX5_gives_0 rfl (lv_at hl 0 rfl) ?_
  refine va_get (D := gD G) (ci := 5) (v := .ref (kH S 23)) (C := RX5) (T := TX5) (N := 15) hx hb htu cu_in5 hown hK hP 4 cw_4 rfl 4 (by decide) (htu _ C_53) (fun _ h9 => h9) rfl dX5_gives_1 ?_
  refine lv_iload_n hx hb dX5_gives_4 rfl (lv_at hl 1 rfl) ?_
  refine lv_iload_n hx hb dX5_gives_5 rfl (lv_at hl 2 rfl) ?_
  have hC0 := hC
  refine c_cv (c_runV (As := [.int (nI n9), .int y]) (rest := []) (q0 := (2 * 23 + 13)) (ci := 0) ⟨hx, hb, hml, hown, htu⟩ (c_setA l G S 23 (lt35 (by decide)) hC (kH S 23) rfl (nI n9) y H) (cwV 2 htu hU_X5_134 rfl rfl rfl (by decide +kernel) ⟨Nat.le_of_ble_eq_true rfl, Nat.le_of_ble_eq_true rfl⟩) hP hK hD hC hpp (c_hd rfl (cw_row (lt35 (by decide)))) rfl rfl hl.1 rfl (lv_room (Nat.le_of_ble_eq_true rfl)) dX5_gives_6) hS hD hh hpp (fun S_2 H locs hw_3 hP hD hS hC hh hs_4 hpq => ?_)
  clear hpp
  have hpp := hpq
  clear hpq
  try dsimp only at hw_3
  have aw_5 : AW [23] [] S S_2 := (by rw [hw_3]; exact AW.u (by decide))
  have aw_5t : AW [23, 24] [] S S_2 := AW.rf.tr (aw_5.mono (by decide) (by decide))
  refine lv_aload_n hx hb dX5_gives_9 rfl (lv_at hl 0 rfl) ?_
  refine va_get (D := gD G) (ci := 5) (v := .ref (kH S 24)) (C := RX5) (T := TX5) (N := 15) hx hb htu cu_in5 hown hK hP 4 cw_4 rfl 5 (by decide) (htu _ C_54) (fun _ h9 => h9) (c_hv (hh.2 24 (lt35 (by decide)))) dX5_gives_10 ?_
  refine lv_iload_n hx hb dX5_gives_13 rfl (lv_at hl 1 rfl) ?_
  refine lv_iload_n hx hb dX5_gives_14 rfl (lv_at hl 3 rfl) ?_
  have hC0 := hC
  refine c_cv (c_runV (As := [.int (nI n9), .int w]) (rest := []) (q0 := (2 * 24 + 13)) (ci := 0) ⟨hx, hb, hml, hown, htu⟩ (c_setA l G S_2 24 (lt35 (by decide)) hC (kH S 24) (hh.2 24 (lt35 (by decide))) (nI n9) w H) (cwV 2 htu hU_X5_134 rfl rfl rfl (by decide +kernel) ⟨Nat.le_of_ble_eq_true rfl, Nat.le_of_ble_eq_true rfl⟩) hP hK hD hC hpp (c_hd (hh.2 24 (lt35 (by decide))) (cw_row (lt35 (by decide)))) rfl rfl hl.1 rfl (lv_room (Nat.le_of_ble_eq_true rfl)) dX5_gives_15) hS hD hh hpp (fun S_7 H locs hw_8 hP hD hS hC hh hs_9 hpq => ?_)
  clear hpp
  have hpp := hpq
  clear hpq
  try dsimp only at hw_8
  have aw_10 : AW [24] [] S_2 S_7 := (by rw [hw_8]; exact AW.u (by decide))
  have aw_10t : AW [23, 24] [] S S_7 := aw_5t.tr (aw_10.mono (by decide) (by decide))
  have q23 : kF S_7 23 = upd (kF S 23) n9 y := by rw [hw_8, uR_Fo (by decide), hw_3, uR_F, k23, rset_at hn (by decide)]
  have q24 : kF S_7 24 = upd (kF S 24) n9 w := by rw [hw_8, uR_F, hw_3, uR_Ko (by decide), uR_Fo (by decide), k24, rset_at hn (by decide)]
  have p23 : kK S_7 23 = 120 := by rw [hw_8, uR_Ko (by decide), hw_3, uR_K]; exact k23
  have p24 : kK S_7 24 = 120 := by rw [hw_8, uR_K, hw_3, uR_Ko (by decide)]; exact k24
  exact c_vret hx hb hr hK hP hD hS hC hh hpp ⟨aw_10t, ⟨⟨p23, p24⟩, q23, q24⟩⟩ dX5_gives_18 hlocks

