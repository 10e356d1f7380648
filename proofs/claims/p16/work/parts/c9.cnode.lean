theorem dX7_node_0 : decode cX7_node 0 = .ok (.iload_n 1, 1) := by decide +kernel
theorem dX7_node_1 : decode cX7_node 1 = .ok (.invokestatic 43, 3) := by decide +kernel
theorem dX7_node_4 : decode cX7_node 4 = .ok (.ifCond .eq 11, 3) := by decide +kernel
theorem dX7_node_15 : decode cX7_node 15 = .ok (.iconst (-1), 1) := by decide +kernel
theorem dX7_node_16 : decode cX7_node 16 = .ok (.ireturn, 1) := by decide +kernel
theorem dX7_node_7 : decode cX7_node 7 = .ok (.iload_n 1, 1) := by decide +kernel
theorem dX7_node_8 : decode cX7_node 8 = .ok (.iload_n 2, 1) := by decide +kernel
theorem dX7_node_9 : decode cX7_node 9 = .ok (.invokestatic 47, 3) := by decide +kernel
theorem dX7_node_12 : decode cX7_node 12 = .ok (.ifCond .ne 5, 3) := by decide +kernel
theorem dX7_node_17 : decode cX7_node 17 = .ok (.aload_n 0, 1) := by decide +kernel
theorem dX7_node_18 : decode cX7_node 18 = .ok (.getfield 12, 3) := by decide +kernel
theorem dX7_node_21 : decode cX7_node 21 = .ok (.iload_n 1, 1) := by decide +kernel
theorem dX7_node_22 : decode cX7_node 22 = .ok (.invokestatic 51, 3) := by decide +kernel
theorem dX7_node_25 : decode cX7_node 25 = .ok (.iload_n 3, 1) := by decide +kernel
theorem dX7_node_26 : decode cX7_node 26 = .ok (.iload 4, 2) := by decide +kernel
theorem dX7_node_28 : decode cX7_node 28 = .ok (.iload 5, 2) := by decide +kernel
theorem dX7_node_30 : decode cX7_node 30 = .ok (.invokevirtual 55, 3) := by decide +kernel
theorem dX7_node_33 : decode cX7_node 33 = .ok (.ifCond .ne 5, 3) := by decide +kernel
theorem dX7_node_38 : decode cX7_node 38 = .ok (.aload_n 0, 1) := by decide +kernel
theorem dX7_node_39 : decode cX7_node 39 = .ok (.getfield 12, 3) := by decide +kernel
theorem dX7_node_42 : decode cX7_node 42 = .ok (.invokevirtual 59, 3) := by decide +kernel
theorem dX7_node_45 : decode cX7_node 45 = .ok (.ifCond .eq 6, 3) := by decide +kernel
theorem dX7_node_51 : decode cX7_node 51 = .ok (.aload_n 0, 1) := by decide +kernel
theorem dX7_node_52 : decode cX7_node 52 = .ok (.getfield 12, 3) := by decide +kernel
theorem dX7_node_55 : decode cX7_node 55 = .ok (.iload_n 1, 1) := by decide +kernel
theorem dX7_node_56 : decode cX7_node 56 = .ok (.iload_n 2, 1) := by decide +kernel
theorem dX7_node_57 : decode cX7_node 57 = .ok (.iload_n 3, 1) := by decide +kernel
theorem dX7_node_58 : decode cX7_node 58 = .ok (.iload 4, 2) := by decide +kernel
theorem dX7_node_60 : decode cX7_node 60 = .ok (.iload 5, 2) := by decide +kernel
theorem dX7_node_62 : decode cX7_node 62 = .ok (.invokevirtual 63, 3) := by decide +kernel
theorem dX7_node_65 : decode cX7_node 65 = .ok (.ireturn, 1) := by decide +kernel
theorem dX7_node_48 : decode cX7_node 48 = .ok (.bipush (-2), 2) := by decide +kernel
theorem dX7_node_50 : decode cX7_node 50 = .ok (.ireturn, 1) := by decide +kernel
theorem dX7_node_36 : decode cX7_node 36 = .ok (.iconst (-1), 1) := by decide +kernel
theorem dX7_node_37 : decode cX7_node 37 = .ok (.ireturn, 1) := by decide +kernel
/-! ===== the class: node, field ===== -/
theorem z_addNode (l : Launch) (G : cG) (S : cS) (tk : Nat) (N : Nat) (kd : Int32) (vv : Int32) (na : Int32) (nb : Int32) (nc : Int32) (hC : CL S) (hT : TI S N) (hN : N < 120) (Hs : Heap) : Met l yX3_addNode (wC yX3_addNode cX3_addNode 9 (some .int)) (cRm S 3 103) (cPcZ tk G S Hs [.ref (ga G 1), .int kd, .int vv, .int na, .int nb, .int nc]) (cQi G S Hs (fun v u => AW [0, 1, 2, 3, 4, 5] [] S u ∧ (v = nI N ∧ ANP S u N kd vv na nb nc))) (CC - PT S) (12 * (CC - PT S)) (cA G S Hs.size) := by
  by_cases h0 : kd = 0
  · exact z_addNodeA l G S tk N kd vv na nb nc hC hT hN h0 Hs
  · by_cases h1 : kd = 1
    · exact z_addNodeB l G S tk N kd vv na nb nc hC hT hN h0 h1 Hs
    · by_cases h2 : p_hasL kd = 0
      · exact z_addNodeC l G S tk N kd vv na nb nc hC hT hN h0 h1 h2 Hs
      · exact z_addNodeD l G S tk N kd vv na nb nc hC hT hN h0 h1 h2 Hs
theorem full_lt {N : Nat} (h : t_full N = 0) (hN : N ≤ 120) : N < 120 := by
  rcases Nat.lt_or_ge N 120 with z | z
  · exact z
  · have e : N = 120 := Nat.le_antisymm hN z
    subst e
    exact absurd h (by decide)
def NOK (S : cS) (N : Nat) (kd vv na nb nc : Int32) : Prop := ¬ p_isK kd = 0 ∧ ¬ p_fit kd vv = 0 ∧ ¬ t_can (kF S 2) N (p_parts kd) na nb nc = 0

set_option maxHeartbeats 4000000 in
set_option maxRecDepth 100000 in
/-- node -/
theorem k_node (l : Launch) (G : cG) (S : cS) (tk : Nat) (N : Nat) (kd : Int32) (vv : Int32) (na : Int32) (nb : Int32) (nc : Int32) (hC : CL S) (hT : TI S N) (Hs : Heap) : Met l yX7_node (wC yX7_node cX7_node 6 (some .int)) (cRm S 4 131) (cPcZ tk G S Hs [.ref (ga G 0), .int kd, .int vv, .int na, .int nb, .int nc]) (cQi G S Hs (fun v u => AW [0, 1, 2, 3, 4, 5] [] S u ∧ ((v = -1 ∧ u = S ∧ ¬ NOK S N kd vv na nb nc) ∨ (NOK S N kd vv na nb nc ∧ ¬ t_full N = 0 ∧ v = -2 ∧ u = S) ∨ (NOK S N kd vv na nb nc ∧ N < 120 ∧ v = nI N ∧ ANP S u N kd vv na nb nc)))) (CC - PT S) (12 * (CC - PT S)) (cA G S Hs.size) := by
  refine Met.ofW (cc := cX7_node) (maxL := 6) (ret := (some .int)) (by decide) rfl ?_
  intro p e s m args below meth c s₁ B hml hv
  obtain ⟨rfl, hsz, hP, hK, hD0, -, hZ⟩ := hv
  have hx := B.exec
  have hb := B.bytes
  have hr := B.returns
  have htu : ∀ w ∈ CU, w.before _ s = true := fun w h => atoms_spec (ws := (wC yX7_node cX7_node 6 (some .int))) B.pre w (List.mem_cons_of_mem _ h)
  have hown : s.vm.findClass RX7 = some m.cls := findClass_of_methodNamed B.named
  have hlocks := B.notSynchronized
  subst hsz
  have hD : cD (cA G S s.heap.size) G S := cD_self hD0
  have hl := lv_entry ([.ref (ga G 0), .int kd, .int vv, .int na, .int nb, .int nc]) (n := 6) (Nat.le_of_ble_eq_true rfl)
  rw [lg_entry_eq]
  generalize (lg_sl ([.ref (ga G 0), .int kd, .int vv, .int na, .int nb, .int nc]) ++ List.replicate (6 - (lg_sl ([.ref (ga G 0), .int kd, .int vv, .int na, .int nb, .int nc])).length) Slot.unset).toArray = ls at hl ⊢
  have hl : lv_has ls 6 [(0, .ref (ga G 0)), (1, .int kd), (2, .int vv), (3, .int na), (4, .int nb), (5, .int nc)] := hl
  obtain ⟨H, hHe⟩ : ∃ H : Heap, H = s.heap := ⟨_, rfl⟩
  rw [← hHe] at hP
  have hS : va_S (cA G S s.heap.size) s.heap H [] := by rw [hHe]; exact va_S.rf
  have hh : HS S S := HS.rf
  have hpp : PT S ≤ PT S := Nat.le_refl _
  have hB9 := hC.1
  refine W.heq hHe ?_
  refine c_ent (S := S) ?_
  have hN9 := hT.1
  refine lv_iload_n hx hb dX7_node_0 rfl (lv_at hl 1 rfl) ?_
  have hC0 := hC
  refine c_ci (c_runSZ (As := [.int kd]) (rest := []) ⟨hx, hb, hml, hown, htu⟩ (z_isKind l G S tk kd hC  H) (va_cwS 1 htu hU_X7_43 rfl rfl rfl (by decide +kernel) ⟨Nat.le_of_ble_eq_true rfl, Nat.le_of_ble_eq_true rfl⟩) hP hK hD hC hpp hS hZ rfl hl.1 rfl (lv_room (Nat.le_of_ble_eq_true rfl)) dX7_node_1) hS hD hh hpp (fun r_1 S_2 H locs hw_3 hP hD hS hC hh hs_4 hpp => ?_)
  obtain ⟨-, hu9, hw_3⟩ := hw_3
  have hu9 := hu9.symm
  subst hu9
  refine lv_if_eq (tgt := 15) hx hb dX7_node_4 (by decide) (fun c_5 => ?_) (fun c_5 => ?_)
  · skip
    refine lv_iconst (v := (-1)) hx hb dX7_node_15 (by decide) ?_
    exact c_iret (v := (-1)) hx hb hr hK hP hD hS hC hh hpp ⟨AW.rf, (Or.inl ⟨rfl, rfl, fun h => h.1 (hw_3.symm.trans c_5)⟩)⟩ dX7_node_16 hlocks
  · skip
    refine lv_iload_n hx hb dX7_node_7 rfl (lv_at hl 1 rfl) ?_
    refine lv_iload_n hx hb dX7_node_8 rfl (lv_at hl 2 rfl) ?_
    have hC0 := hC
    refine c_ci (c_runS (As := [.int kd, .int vv]) (rest := []) ⟨hx, hb, hml, hown, htu⟩ (z_isFitting l G S kd vv hC  H) (va_cwS 2 htu hU_X7_47 rfl rfl rfl (by decide +kernel) ⟨Nat.le_of_ble_eq_true rfl, Nat.le_of_ble_eq_true rfl⟩) hP hK hD hC hpp rfl hl.1 rfl (lv_room (Nat.le_of_ble_eq_true rfl)) dX7_node_9) hS hD hh hpp (fun r_6 S_7 H locs hw_8 hP hD hS hC hh hs_9 hpp => ?_)
    obtain ⟨-, hu9, hw_8⟩ := hw_8
    have hu9 := hu9.symm
    subst hu9
    refine lv_if_ne (tgt := 17) hx hb dX7_node_12 (by decide) (fun c_10 => ?_) (fun c_10 => ?_)
    · skip
      refine lv_aload_n hx hb dX7_node_17 rfl (lv_at hl 0 rfl) ?_
      refine va_get (D := gD G) (ci := 7) (v := .ref (ga G 1)) (C := RX7) (T := TX7) (N := 4) hx hb htu cu_in7 hown hK hP 0 cw_0 rfl 0 (by decide) (htu _ C_7) (fun _ h9 => h9) rfl dX7_node_18 ?_
      refine lv_iload_n hx hb dX7_node_21 rfl (lv_at hl 1 rfl) ?_
      have hC0 := hC
      refine c_ci (c_runSZ (As := [.int kd]) (rest := [.ref (ga G 1)]) ⟨hx, hb, hml, hown, htu⟩ (z_partsOfKind l G S tk kd hC  H) (va_cwS 1 htu hU_X7_51 rfl rfl rfl (by decide +kernel) ⟨Nat.le_of_ble_eq_true rfl, Nat.le_of_ble_eq_true rfl⟩) hP hK hD hC hpp hS hZ rfl hl.1 rfl (lv_room (Nat.le_of_ble_eq_true rfl)) dX7_node_22) hS hD hh hpp (fun r_11 S_12 H locs hw_13 hP hD hS hC hh hs_14 hpp => ?_)
      obtain ⟨-, hu9, hw_13⟩ := hw_13
      have hu9 := hu9.symm
      subst hu9
      obtain rfl : r_11 = p_parts kd := hw_13
      refine lv_iload_n hx hb dX7_node_25 rfl (lv_at hl 3 rfl) ?_
      refine lv_iload hx hb dX7_node_26 (lv_at hl 4 rfl) ?_
      refine lv_iload hx hb dX7_node_28 (lv_at hl 5 rfl) ?_
      have hC0 := hC
      refine c_ci (c_runV (As := [.int ((p_parts kd)), .int na, .int nb, .int nc]) (rest := []) (q0 := 1) (ci := 3) ⟨hx, hb, hml, hown, htu⟩ (tt_canBeParts l G S N ((p_parts kd)) na nb nc hC hT H) (cwV 4 htu hU_X7_55 rfl rfl rfl (by decide +kernel) ⟨Nat.le_of_ble_eq_true rfl, Nat.le_of_ble_eq_true rfl⟩) hP hK hD hC hpp cw_1 rfl rfl hl.1 rfl (lv_room (Nat.le_of_ble_eq_true rfl)) dX7_node_30) hS hD hh hpp (fun r_15 S_16 H locs hw_17 hP hD hS hC hh hs_18 hpp => ?_)
      obtain ⟨-, hu9, hw_17⟩ := hw_17
      have hu9 := hu9.symm
      subst hu9
      refine lv_if_ne (tgt := 38) hx hb dX7_node_33 (by decide) (fun c_19 => ?_) (fun c_19 => ?_)
      · skip
        refine lv_aload_n hx hb dX7_node_38 rfl (lv_at hl 0 rfl) ?_
        refine va_get (D := gD G) (ci := 7) (v := .ref (ga G 1)) (C := RX7) (T := TX7) (N := 4) hx hb htu cu_in7 hown hK hP 0 cw_0 rfl 0 (by decide) (htu _ C_7) (fun _ h9 => h9) rfl dX7_node_39 ?_
        have hC0 := hC
        refine c_ci (c_runV (As := []) (rest := []) (q0 := 1) (ci := 3) ⟨hx, hb, hml, hown, htu⟩ (tt_isFull l G S N hC hT H) (cwV 0 htu hU_X7_59 rfl rfl rfl (by decide +kernel) ⟨Nat.le_of_ble_eq_true rfl, Nat.le_of_ble_eq_true rfl⟩) hP hK hD hC hpp cw_1 rfl rfl hl.1 rfl (lv_room (Nat.le_of_ble_eq_true rfl)) dX7_node_42) hS hD hh hpp (fun r_20 S_21 H locs hw_22 hP hD hS hC hh hs_23 hpp => ?_)
        obtain ⟨-, hu9, hw_22⟩ := hw_22
        have hu9 := hu9.symm
        subst hu9
        refine lv_if_eq (tgt := 51) hx hb dX7_node_45 (by decide) (fun c_24 => ?_) (fun c_24 => ?_)
        · skip
          refine lv_aload_n hx hb dX7_node_51 rfl (lv_at hl 0 rfl) ?_
          refine va_get (D := gD G) (ci := 7) (v := .ref (ga G 1)) (C := RX7) (T := TX7) (N := 4) hx hb htu cu_in7 hown hK hP 0 cw_0 rfl 0 (by decide) (htu _ C_7) (fun _ h9 => h9) rfl dX7_node_52 ?_
          refine lv_iload_n hx hb dX7_node_55 rfl (lv_at hl 1 rfl) ?_
          refine lv_iload_n hx hb dX7_node_56 rfl (lv_at hl 2 rfl) ?_
          refine lv_iload_n hx hb dX7_node_57 rfl (lv_at hl 3 rfl) ?_
          refine lv_iload hx hb dX7_node_58 (lv_at hl 4 rfl) ?_
          refine lv_iload hx hb dX7_node_60 (lv_at hl 5 rfl) ?_
          have hlt : N < 120 := full_lt (hw_22.symm.trans c_24) hN9
          have hC0 := hC
          refine c_ci (c_runVZ (As := [.int kd, .int vv, .int na, .int nb, .int nc]) (rest := []) (q0 := 1) (ci := 3) ⟨hx, hb, hml, hown, htu⟩ (z_addNode l G S tk N kd vv na nb nc hC hT hlt H) (cwV 5 htu hU_X7_63 rfl rfl rfl (by decide +kernel) ⟨Nat.le_of_ble_eq_true rfl, Nat.le_of_ble_eq_true rfl⟩) hP hK hD hC hpp hS hZ cw_1 rfl rfl hl.1 rfl (lv_room (Nat.le_of_ble_eq_true rfl)) dX7_node_62) hS hD hh hpp (fun r_25 S_26 H locs hw_27 hP hD hS hC hh hs_28 hpp => ?_)
          try dsimp only at hw_27
          have aw_29 : AW [0, 1, 2, 3, 4, 5] [] S S_26 := hw_27.1
          have aw_29t : AW [0, 1, 2, 3, 4, 5] [] S S_26 := AW.rf.tr (aw_29.mono (by decide) (by decide))
          exact c_iret (v := r_25) hx hb hr hK hP hD hS hC hh hpp ⟨aw_29t, (Or.inr (Or.inr ⟨⟨fun h => c_5 (hw_3.trans h), fun h => c_10 (hw_8.trans h), fun h => c_19 (hw_17.trans h)⟩, hlt, hw_27.2.1, hw_27.2.2⟩))⟩ dX7_node_65 hlocks
        · skip
          refine lv_bipush (v := (-2)) hx hb dX7_node_48 (by decide) ?_
          exact c_iret (v := (-2)) hx hb hr hK hP hD hS hC hh hpp ⟨AW.rf, (Or.inr (Or.inl ⟨⟨fun h => c_5 (hw_3.trans h), fun h => c_10 (hw_8.trans h), fun h => c_19 (hw_17.trans h)⟩, fun h => c_24 (hw_22.trans h), rfl, rfl⟩))⟩ dX7_node_50 hlocks
      · skip
        refine lv_iconst (v := (-1)) hx hb dX7_node_36 (by decide) ?_
        exact c_iret (v := (-1)) hx hb hr hK hP hD hS hC hh hpp ⟨AW.rf, (Or.inl ⟨rfl, rfl, fun h => h.2.2 (hw_17.symm.trans c_19)⟩)⟩ dX7_node_37 hlocks
    · skip
      refine lv_iconst (v := (-1)) hx hb dX7_node_15 (by decide) ?_
      exact c_iret (v := (-1)) hx hb hr hK hP hD hS hC hh hpp ⟨AW.rf, (Or.inl ⟨rfl, rfl, fun h => h.2.1 (hw_8.symm.trans c_10)⟩)⟩ dX7_node_16 hlocks

