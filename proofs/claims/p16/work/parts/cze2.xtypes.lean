set_option maxHeartbeats 4000000 in
set_option maxRecDepth 100000 in
/-- partBy -/
theorem x_partBy (l : Launch) (G : cG) (S : cS) (T : Nat) (V : Nat) (VP : Nat) (X : Nat) (Y : Nat) (Z : Nat) (z : aS) (t9 : Nat) (la : Nat) (hC : CL S) (hY : TY S T V VP X Y Z) (hz : KT S z) (ht : t9 < nT z) (h2 : srt z t9 = 2) (hla : la < 26) (Hs : Heap) : Met l yX4_partBy (wC yX4_partBy cX4_partBy 5 (some .int)) (cRm S 2 43) (cPc G S Hs [.ref (ga G 2), .int (nI t9), .int (nI la)]) (cQi G S Hs (fun v u => AW [] [] S u ∧ (u = S ∧ v = pby z t9 la))) (CC - PT S) (12 * (CC - PT S)) (cA G S Hs.size) := by
  refine Met.ofW (cc := cX4_partBy) (maxL := 5) (ret := (some .int)) (by decide) rfl ?_
  intro p e s m args below meth c s₁ B hml hv
  obtain ⟨rfl, hsz, hP, hK, hD0, -⟩ := hv
  have hx := B.exec
  have hb := B.bytes
  have hr := B.returns
  have htu : ∀ w ∈ CU, w.before _ s = true := fun w h => atoms_spec (ws := (wC yX4_partBy cX4_partBy 5 (some .int))) B.pre w (List.mem_cons_of_mem _ h)
  have hown : s.vm.findClass RX4 = some m.cls := findClass_of_methodNamed B.named
  have hlocks := B.notSynchronized
  subst hsz
  have hD : cD (cA G S s.heap.size) G S := cD_self hD0
  have hl := lv_entry ([.ref (ga G 2), .int (nI t9), .int (nI la)]) (n := 5) (Nat.le_of_ble_eq_true rfl)
  rw [lg_entry_eq]
  generalize (lg_sl ([.ref (ga G 2), .int (nI t9), .int (nI la)]) ++ List.replicate (5 - (lg_sl ([.ref (ga G 2), .int (nI t9), .int (nI la)])).length) Slot.unset).toArray = ls at hl ⊢
  have hl : lv_has ls 5 [(0, .ref (ga G 2)), (1, .int (nI t9)), (2, .int (nI la))] := hl
  obtain ⟨H, hHe⟩ : ∃ H : Heap, H = s.heap := ⟨_, rfl⟩
  rw [← hHe] at hP
  have hS : va_S (cA G S s.heap.size) s.heap H [] := by rw [hHe]; exact va_S.rf
  have hh : HS S S := HS.rf
  have hpp : PT S ≤ PT S := Nat.le_refl _
  have hB9 := hC.1
  refine W.heq hHe ?_
  refine c_ent (S := S) ?_
  obtain ⟨⟨k6, k7, k8, k9, k16, k14, k10, k11, k12, k13, k17, k18⟩, ⟨tT, tV, tB, tX⟩, tv, tr, ts⟩ := id hY
  obtain ⟨hc1, hc2, hc3⟩ := hz.cnt ht h2
  have hi3 : rget (kF S 6) (kK S 6) (nI t9) = 3 := (hz.is ht (k := 3) (by decide) (by decide)).mpr (by omega)
  refine lv_aload_n hx hb dX4_partBy_0 rfl (lv_at hl 0 rfl) ?_
  refine lv_iload_n hx hb dX4_partBy_1 rfl (lv_at hl 1 rfl) ?_
  have hC0 := hC
  refine c_ci (c_runV (As := [.int (nI t9)]) (rest := []) (q0 := 2) (ci := 4) ⟨hx, hb, hml, hown, htu⟩ (x_fieldCount l G S (nI t9) hC  H) (cwV 1 htu hU_X4_92 rfl rfl rfl (by decide +kernel) ⟨Nat.le_of_ble_eq_true rfl, Nat.le_of_ble_eq_true rfl⟩) hP hK hD hC hpp cw_2 rfl rfl hl.1 rfl (lv_room (Nat.le_of_ble_eq_true rfl)) dX4_partBy_2) hS hD hh hpp (fun r_1 S_2 H locs hw_3 hP hD hS hC hh hs_4 hpq => ?_)
  clear hpp
  have hpp := hpq
  clear hpq
  obtain ⟨-, hu9, hw_3⟩ := hw_3
  have hu9 := hu9.symm
  subst hu9
  obtain rfl : r_1 = nI (parts z t9).length := (hw_3 hi3).trans hc1
  clear hw_3
  refine lv_istore_n (lv' := [(3, .int (nI ((parts z t9).length))), (0, .ref (ga G 2)), (1, .int (nI t9)), (2, .int (nI la))]) hx hb dX4_partBy_5 rfl hl (by decide) rfl (fun ls hl => ?_)
  refine lv_iconst (v := 0) hx hb dX4_partBy_6 (by decide) ?_
  refine lv_istore (lv' := [(4, .int 0), (3, .int (nI ((parts z t9).length))), (0, .ref (ga G 2)), (1, .int (nI t9)), (2, .int (nI la))]) hx hb dX4_partBy_7 hl (by decide) rfl (fun ls hl => ?_)
  refine w_loop (fun j H locs k sl g => ∃ (i : Nat) (ls : Array Slot), i + j = (parts z t9).length ∧ partBy (labs z t9) (parts z t9) la = partBy ((labs z t9).drop i) ((parts z t9).drop i) la ∧ k = PT S - PT S ∧ sl = 12 * (PT S - PT S) ∧ cP G S H ∧ cD (cA G S s.heap.size) G S ∧ va_S (cA G S s.heap.size) s.heap H locs ∧ lv_has ls 5 [(0, .ref (ga G 2)), (1, .int (nI t9)), (2, .int (nI la)), (3, .int (nI ((parts z t9).length))), (4, .int (nI i))] ∧ g = F0 m 9 ls []) ?_ ?_ ((parts z t9).length) _ _ _ _ _ ⟨0, ls, by omega, rfl, rfl, rfl, hP, hD, hS, lv_sub hl [2, 3, 4, 1, 0] rfl, rfl⟩
  · intro H locs k sl g hI
    obtain ⟨i, ls, hp0, hp1, rfl, rfl, hP, hD, hS, hl, rfl⟩ := hI
    refine lv_iload hx hb dX4_partBy_9 (lv_at hl 4 rfl) ?_
    refine lv_iload_n hx hb dX4_partBy_11 rfl (lv_at hl 3 rfl) ?_
    refine lv_icmp_ge (tgt := 40) hx hb dX4_partBy_12 (by decide) (fun c_5 => ?_) (fun c_5 => absurd (nI_le (by omega) (by omega)) c_5)
    refine lv_bipush (v := (-9)) hx hb dX4_partBy_40 (by decide) ?_
    exact c_iret (v := (-9)) hx hb hr hK hP hD hS hC hh hpp ⟨AW.rf, ⟨rfl, (pby_of (hp1.trans (partBy_n (by omega)))).symm⟩⟩ dX4_partBy_42 hlocks
  · intro j ih9 H locs k sl g hI
    obtain ⟨i, ls, hp0, hp1, rfl, rfl, hP, hD, hS, hl, rfl⟩ := hI
    refine lv_iload hx hb dX4_partBy_9 (lv_at hl 4 rfl) ?_
    refine lv_iload_n hx hb dX4_partBy_11 rfl (lv_at hl 3 rfl) ?_
    refine lv_icmp_ge (tgt := 40) hx hb dX4_partBy_12 (by decide) (fun c_6 => absurd c_6 (nI_ge (by omega) (by omega))) (fun c_6 => ?_)
    refine lv_aload_n hx hb dX4_partBy_15 rfl (lv_at hl 0 rfl) ?_
    refine lv_iload_n hx hb dX4_partBy_16 rfl (lv_at hl 1 rfl) ?_
    refine lv_iload hx hb dX4_partBy_17 (lv_at hl 4 rfl) ?_
    have hC0 := hC
    refine c_ci (c_runV (As := [.int (nI t9), .int (nI i)]) (rest := []) (q0 := 2) (ci := 4) ⟨hx, hb, hml, hown, htu⟩ (x_labelAt l G S (nI t9) (nI i) hC  H) (cwV 2 htu hU_X4_95 rfl rfl rfl (by decide +kernel) ⟨Nat.le_of_ble_eq_true rfl, Nat.le_of_ble_eq_true rfl⟩) hP hK hD hC hpp cw_2 rfl rfl hl.1 rfl (lv_room (Nat.le_of_ble_eq_true rfl)) dX4_partBy_19) hS hD hh hpp (fun r_7 S_8 H locs hw_9 hP hD hS hC hh hs_10 hpq => ?_)
    clear hpp
    have hpp := hpq
    clear hpq
    obtain ⟨-, hu9, hw_9⟩ := hw_9
    have hu9 := hu9.symm
    subst hu9
    have hi : i < (parts z t9).length := by omega
    obtain ⟨g1, g2, g3, g4⟩ := hz.lab ht h2 hi
    obtain rfl : r_7 = nI ((labs z t9).getD i 0) := hw_9.trans g1
    refine lv_iload_n hx hb dX4_partBy_22 rfl (lv_at hl 2 rfl) ?_
    refine lv_icmp_ne (tgt := 34) hx hb dX4_partBy_23 (by decide) (fun c_11 => ?_) (fun c_11 => ?_)
    · skip
      have nc_11 : ¬ (labs z t9).getD i 0 = la := fun h9 => c_11 ((nI_eq (a := (labs z t9).getD i 0) (b := la) (by omega) (by omega)).mpr h9)
      refine lv_iinc (v := nI (i + 1)) (lv' := [(4, .int (nI (i + 1))), (0, .ref (ga G 2)), (1, .int (nI t9)), (2, .int (nI la)), (3, .int (nI ((parts z t9).length)))]) hx hb dX4_partBy_34 hl (k := 4) rfl (nI_1 i) (by decide) rfl (fun ls hl => ?_)
      refine lv_goto (tgt := 9) hx hb dX4_partBy_37 (by decide) ?_
      exact ih9 _ _ _ _ _ ⟨i + 1, ls, by omega, (by rw [hp1, partBy_s hi hc2, if_neg nc_11]), rfl, rfl, hP, hD, hS, lv_sub hl [1, 2, 3, 4, 0] rfl, rfl⟩
    · skip
      have nc_11 : (labs z t9).getD i 0 = la := (nI_eq (a := (labs z t9).getD i 0) (b := la) (by omega) (by omega)).mp c_11
      refine lv_aload_n hx hb dX4_partBy_26 rfl (lv_at hl 0 rfl) ?_
      refine lv_iload_n hx hb dX4_partBy_27 rfl (lv_at hl 1 rfl) ?_
      refine lv_iload hx hb dX4_partBy_28 (lv_at hl 4 rfl) ?_
      have hC0 := hC
      refine c_ci (c_runV (As := [.int (nI t9), .int (nI i)]) (rest := []) (q0 := 2) (ci := 4) ⟨hx, hb, hml, hown, htu⟩ (x_partAt l G S (nI t9) (nI i) hC  H) (cwV 2 htu hU_X4_98 rfl rfl rfl (by decide +kernel) ⟨Nat.le_of_ble_eq_true rfl, Nat.le_of_ble_eq_true rfl⟩) hP hK hD hC hpp cw_2 rfl rfl hl.1 rfl (lv_room (Nat.le_of_ble_eq_true rfl)) dX4_partBy_30) hS hD hh hpp (fun r_12 S_13 H locs hw_14 hP hD hS hC hh hs_15 hpq => ?_)
      clear hpp
      have hpp := hpq
      clear hpq
      obtain ⟨-, hu9, hw_14⟩ := hw_14
      have hu9 := hu9.symm
      subst hu9
      obtain rfl : r_12 = nI ((parts z t9).getD i 0) := hw_14.trans g2
      exact c_iret (v := nI ((parts z t9).getD i 0)) hx hb hr hK hP hD hS hC hh hpp ⟨AW.rf, ⟨rfl, (pby_of (hp1.trans ((partBy_s hi hc2).trans (if_pos nc_11)))).symm⟩⟩ dX4_partBy_33 hlocks

