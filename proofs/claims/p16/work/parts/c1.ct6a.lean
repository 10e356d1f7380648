theorem dX2_putNumber_0 : decode cX2_putNumber 0 = .ok (.aload_n 0, 1) := by decide +kernel
theorem dX2_putNumber_1 : decode cX2_putNumber 1 = .ok (.getfield 35, 3) := by decide +kernel
theorem dX2_putNumber_4 : decode cX2_putNumber 4 = .ok (.bipush 39, 2) := by decide +kernel
theorem dX2_putNumber_6 : decode cX2_putNumber 6 = .ok (.invokevirtual 69, 3) := by decide +kernel
theorem dX2_putNumber_9 : decode cX2_putNumber 9 = .ok (.aload_n 0, 1) := by decide +kernel
theorem dX2_putNumber_10 : decode cX2_putNumber 10 = .ok (.getfield 35, 3) := by decide +kernel
theorem dX2_putNumber_13 : decode cX2_putNumber 13 = .ok (.aload_n 0, 1) := by decide +kernel
theorem dX2_putNumber_14 : decode cX2_putNumber 14 = .ok (.getfield 39, 3) := by decide +kernel
theorem dX2_putNumber_17 : decode cX2_putNumber 17 = .ok (.iload_n 1, 1) := by decide +kernel
theorem dX2_putNumber_18 : decode cX2_putNumber 18 = .ok (.invokevirtual 73, 3) := by decide +kernel
theorem dX2_putNumber_21 : decode cX2_putNumber 21 = .ok (.invokevirtual 92, 3) := by decide +kernel
theorem dX2_putNumber_24 : decode cX2_putNumber 24 = .ok (.return_, 1) := by decide +kernel
set_option maxHeartbeats 4000000 in
set_option maxRecDepth 100000 in
/-- putNumber -/
theorem l_putNumber_6 (l : Launch) (G : cG) (S : cS) (sn : Nat) (t : Int32) (hC : CL S) (hTS : kT S = ga G 6) (hn : S.1 200 = nI sn) (hcap : sn ≤ 400) (Hs : Heap) : Met l yX2_putNumber (wC yX2_putNumber cX2_putNumber 2 none) (cRm S 2 49) (cPc G S Hs [.ref (ga G 3), .int t]) (cQv G S Hs (fun u => AW [] [200] S u ∧ (∃ sm, u.1 200 = nI sm ∧ sn ≤ sm ∧ sm ≤ 400 ∧ (sn < 400 → sn < sm)))) (CC - PT S) (12 * (CC - PT S)) (cA G S Hs.size) := by
  refine Met.ofW (cc := cX2_putNumber) (maxL := 2) (ret := none) (by decide) rfl ?_
  intro p e s m args below meth c s₁ B hml hv
  obtain ⟨rfl, hsz, hP, hK, hD0, -⟩ := hv
  have hx := B.exec
  have hb := B.bytes
  have hr := B.returns
  have htu : ∀ w ∈ CU, w.before _ s = true := fun w h => atoms_spec (ws := (wC yX2_putNumber cX2_putNumber 2 none)) B.pre w (List.mem_cons_of_mem _ h)
  have hown : s.vm.findClass RX2 = some m.cls := findClass_of_methodNamed B.named
  have hlocks := B.notSynchronized
  subst hsz
  have hD : cD (cA G S s.heap.size) G S := cD_self hD0
  have hl := lv_entry ([.ref (ga G 3), .int t]) (n := 2) (Nat.le_of_ble_eq_true rfl)
  rw [lg_entry_eq]
  generalize (lg_sl ([.ref (ga G 3), .int t]) ++ List.replicate (2 - (lg_sl ([.ref (ga G 3), .int t])).length) Slot.unset).toArray = ls at hl ⊢
  have hl : lv_has ls 2 [(0, .ref (ga G 3)), (1, .int t)] := hl
  obtain ⟨H, hHe⟩ : ∃ H : Heap, H = s.heap := ⟨_, rfl⟩
  rw [← hHe] at hP
  have hS : va_S (cA G S s.heap.size) s.heap H [] := by rw [hHe]; exact va_S.rf
  have hh : HS S S := HS.rf
  have hpp : PT S ≤ PT S := Nat.le_refl _
  have hB9 := hC.1
  refine W.heq hHe ?_
  refine c_ent (S := S) ?_
  refine lv_aload_n hx hb dX2_putNumber_0 rfl (lv_at hl 0 rfl) ?_
  refine va_get (D := gD G) (ci := 2) (v := .ref (ga G 6)) (C := RX2) (T := TX2) (N := 6) hx hb htu cu_in2 hown hK hP 3 cw_3 rfl 5 (by decide) (htu _ C_127) (fun _ h9 => h9) (c_hv hTS) dX2_putNumber_1 ?_
  refine lv_bipush (v := 39) hx hb dX2_putNumber_4 (by decide) ?_
  have hC0 := hC
  refine c_cv (c_runV (As := [.int 39]) (rest := []) (q0 := 6) (ci := 1) ⟨hx, hb, hml, hown, htu⟩ (s_put_6 l G S sn 39 hC hn hcap H) (cwV 1 htu hU_X2_69 rfl rfl rfl (by decide +kernel) ⟨Nat.le_of_ble_eq_true rfl, Nat.le_of_ble_eq_true rfl⟩) hP hK hD hC hpp cw_6 rfl rfl hl.1 rfl (lv_room (Nat.le_of_ble_eq_true rfl)) dX2_putNumber_6) hS hD hh hpp (fun S_2 H locs hw_3 hP hD hS hC hh hs_4 hpp => ?_)
  try dsimp only at hw_3
  have aw_5 : AW [] [200] S S_2 := hw_3.1
  have aw_5t : AW [] [200] S S_2 := AW.rf.tr (aw_5.mono (by decide) (by decide))
  obtain ⟨sg_6, sg_61, sg_62, sg_63, sg_64⟩ := hw_3.2
  refine lv_aload_n hx hb dX2_putNumber_9 rfl (lv_at hl 0 rfl) ?_
  refine va_get (D := gD G) (ci := 2) (v := .ref (ga G 6)) (C := RX2) (T := TX2) (N := 6) hx hb htu cu_in2 hown hK hP 3 cw_3 rfl 5 (by decide) (htu _ C_127) (fun _ h9 => h9) (c_hv ((aw_5.2.2.1 (by decide)).trans hTS)) dX2_putNumber_10 ?_
  refine lv_aload_n hx hb dX2_putNumber_13 rfl (lv_at hl 0 rfl) ?_
  refine va_get (D := gD G) (ci := 2) (v := .ref (ga G 2)) (C := RX2) (T := TX2) (N := 6) hx hb htu cu_in2 hown hK hP 3 cw_3 rfl 0 (by decide) (htu _ C_128) (fun _ h9 => h9) rfl dX2_putNumber_14 ?_
  refine lv_iload_n hx hb dX2_putNumber_17 rfl (lv_at hl 1 rfl) ?_
  have hC0 := hC
  refine c_ci (c_runV (As := [.int t]) (rest := [.ref (ga G 6)]) (q0 := 2) (ci := 4) ⟨hx, hb, hml, hown, htu⟩ (y_numberOf l G S_2 t hC  H) (cwV 1 htu hU_X2_73 rfl rfl rfl (by decide +kernel) ⟨Nat.le_of_ble_eq_true rfl, Nat.le_of_ble_eq_true rfl⟩) hP hK hD hC hpp cw_2 rfl rfl hl.1 rfl (lv_room (Nat.le_of_ble_eq_true rfl)) dX2_putNumber_18) hS hD hh hpp (fun r_7 S_8 H locs hw_9 hP hD hS hC hh hs_10 hpp => ?_)
  obtain ⟨-, hu9⟩ := hw_9
  have hu9 := hu9.symm
  subst hu9
  have hC0 := hC
  refine c_cv (c_runV (As := [.int r_7]) (rest := []) (q0 := 6) (ci := 1) ⟨hx, hb, hml, hown, htu⟩ (s_putFigures_6 l G S_2 sg_6 r_7 hC sg_61 sg_63 H) (cwV 1 htu hU_X2_92 rfl rfl rfl (by decide +kernel) ⟨Nat.le_of_ble_eq_true rfl, Nat.le_of_ble_eq_true rfl⟩) hP hK hD hC hpp cw_6 rfl rfl hl.1 rfl (lv_room (Nat.le_of_ble_eq_true rfl)) dX2_putNumber_21) hS hD hh hpp (fun S_12 H locs hw_13 hP hD hS hC hh hs_14 hpp => ?_)
  try dsimp only at hw_13
  have aw_15 : AW [] [200] S_2 S_12 := hw_13.1
  have aw_15t : AW [] [200] S S_12 := aw_5t.tr (aw_15.mono (by decide) (by decide))
  obtain ⟨sg_16, sg_161, sg_162, sg_163⟩ := hw_13.2
  exact c_vret hx hb hr hK hP hD hS hC hh hpp ⟨aw_15t, ⟨sg_16, sg_161, Nat.le_trans sg_62 sg_162, sg_163, fun h => Nat.lt_of_lt_of_le (sg_64 h) sg_162⟩⟩ dX2_putNumber_24 hlocks

