theorem x_copied_all : ∀ fu, xCopiedAt fu := by
  intro fu
  induction fu with
  | zero => exact fun l G S T V X Y Z K g dp wy z t9 ab lv tm hC hY hBD hKK h15 hg hwy hdp hY2 h8 h9 h10 htm hlv hab hz hm hkq h0 ht Hs => x_copied_0 l G S T V X Y Z K g dp wy z t9 ab lv tm hC hY hBD hKK h15 hg hwy hdp hY2 h8 h9 h10 htm hlv hab hz hm hkq h0 ht Hs
  | succ fu ih =>
    intro l G S T V X Y Z K g dp wy z t9 ab lv tm hC hY hBD hKK h15 hg hwy hdp hY2 h8 h9 h10 htm hlv hab hz hm hkq h0 ht Hs
    rcases (by omega : wy = 0 ∨ wy = 1 ∨ wy = 2) with e | e | e
    · subst e
      obtain ⟨-, rfl⟩ : 0 ≠ 2 ∧ g = 1 := by omega
      exact x_copied_s0 l G S fu T V X Y Z K dp z t9 ab lv tm hC ih hY hBD hKK h15 hdp hY2 h8 h9 h10 htm hlv hab hz hm hkq h0 ht Hs
    · subst e
      obtain ⟨-, rfl⟩ : 1 ≠ 2 ∧ g = 1 := by omega
      exact x_copied_s1 l G S fu T V X Y Z K dp z t9 ab lv tm hC ih hY hBD hKK h15 hdp hY2 h8 h9 h10 htm hlv hab hz hm hkq h0 ht Hs
    · subst e
      obtain rfl : g = 0 := by omega
      exact x_copied_s2 l G S fu T V X Y Z K dp z t9 ab lv tm hC ih hY hBD hKK h15 hdp hY2 h8 h9 h10 htm hlv hab hz hm hkq h0 ht Hs

def xUnderAt (fu : Nat) : Prop := ∀ (l : Launch) (G : cG) (S : cS) (T : Nat) (V : Nat) (X : Nat) (Y : Nat) (Z : Nat) (q : Nat) (dp : Nat) (z : aS) (a9 : Nat) (b9 : Nat) (tm : Nat) (hC : CL S) (hU : US S T V X Y Z q) (hq : q ≤ 1500) (h15 : kK S 15 = 0) (hdp : dp + fu = 61) (hY2 : Y + 366 ≤ 900) (hz : KT S z) (hkq : KQ S z) (hm0 : KM0 S tm) (h8 : S.1 8 = nI tm) (htm : tm + 1501 ≤ 2 ^ 29 + stp z) (h0 : sto z = 0) (hzq : stp z = q) (ha : a9 < nT z) (hb9 : b9 < nT z) (Hs : Heap), Met l yX5_under (wC yX5_under cX5_under 8 (some .int)) (cRm S (fu + 70) (40 * fu + 3000)) (cPc G S Hs [.ref (ga G 4), .int (nI a9), .int (nI b9), .int (nI dp)]) (cQi G S Hs (fun v u => AW [6, 7, 8, 9, 16, 14, 10, 11, 12, 13, 17, 18, 25, 26, 35] [8, 9, 10, 12] S u ∧ (UX u T V Y q v ∧ UE S u Y tm z (un fu z a9 b9) v))) (CC - PT S) (12 * (CC - PT S)) (cA G S Hs.size)

set_option maxHeartbeats 4000000 in
set_option maxRecDepth 100000 in
/-- under, too deep -/
theorem x_under_0 (l : Launch) (G : cG) (S : cS) (T : Nat) (V : Nat) (X : Nat) (Y : Nat) (Z : Nat) (q : Nat) (dp : Nat) (z : aS) (a9 : Nat) (b9 : Nat) (tm : Nat) (hC : CL S) (hU : US S T V X Y Z q) (hq : q ≤ 1500) (h15 : kK S 15 = 0) (hdp : dp + 0 = 61) (hY2 : Y + 366 ≤ 900) (hz : KT S z) (hkq : KQ S z) (hm0 : KM0 S tm) (h8 : S.1 8 = nI tm) (htm : tm + 1501 ≤ 2 ^ 29 + stp z) (h0 : sto z = 0) (hzq : stp z = q) (ha : a9 < nT z) (hb9 : b9 < nT z) (Hs : Heap) : Met l yX5_under (wC yX5_under cX5_under 8 (some .int)) (cRm S (0 + 70) (40 * 0 + 3000)) (cPc G S Hs [.ref (ga G 4), .int (nI a9), .int (nI b9), .int (nI dp)]) (cQi G S Hs (fun v u => AW [6, 7, 8, 9, 16, 14, 10, 11, 12, 13, 17, 18, 25, 26, 35] [8, 9, 10, 12] S u ∧ (UX u T V Y q v ∧ UE S u Y tm z (un 0 z a9 b9) v))) (CC - PT S) (12 * (CC - PT S)) (cA G S Hs.size) := by
  refine Met.ofW (cc := cX5_under) (maxL := 8) (ret := (some .int)) (by decide) rfl ?_
  intro p e s m args below meth c s₁ B hml hv
  obtain ⟨rfl, hsz, hP, hK, hD0, -⟩ := hv
  have hx := B.exec
  have hb := B.bytes
  have hr := B.returns
  have htu : ∀ w ∈ CU, w.before _ s = true := fun w h => atoms_spec (ws := (wC yX5_under cX5_under 8 (some .int))) B.pre w (List.mem_cons_of_mem _ h)
  have hown : s.vm.findClass RX5 = some m.cls := findClass_of_methodNamed B.named
  have hlocks := B.notSynchronized
  subst hsz
  have hD : cD (cA G S s.heap.size) G S := cD_self hD0
  have hl := lv_entry ([.ref (ga G 4), .int (nI a9), .int (nI b9), .int (nI dp)]) (n := 8) (Nat.le_of_ble_eq_true rfl)
  rw [lg_entry_eq]
  generalize (lg_sl ([.ref (ga G 4), .int (nI a9), .int (nI b9), .int (nI dp)]) ++ List.replicate (8 - (lg_sl ([.ref (ga G 4), .int (nI a9), .int (nI b9), .int (nI dp)])).length) Slot.unset).toArray = ls at hl ⊢
  have hl : lv_has ls 8 [(0, .ref (ga G 4)), (1, .int (nI a9)), (2, .int (nI b9)), (3, .int (nI dp))] := hl
  obtain ⟨H, hHe⟩ : ∃ H : Heap, H = s.heap := ⟨_, rfl⟩
  rw [← hHe] at hP
  have hS : va_S (cA G S s.heap.size) s.heap H [] := by rw [hHe]; exact va_S.rf
  have hh : HS S S := HS.rf
  have hpp : PT S ≤ PT S := Nat.le_refl _
  have hB9 := hC.1
  refine W.heq hHe ?_
  refine c_ent (S := S) ?_
  obtain ⟨hY, h12, hZq, hBD⟩ := id hU
  obtain ⟨tT, tV, tB, tX⟩ := id hY.2.1
  have sg0 : ∀ j, j < Y → kF S 12 j = kF S 12 j ∧ kF S 13 j = kF S 13 j := fun _ _ => ⟨rfl, rfl⟩
  refine lv_aload_n hx hb dX5_under_0 rfl (lv_at hl 0 rfl) ?_
  refine lv_dup hx hb dX5_under_1 rfl ?_
  refine va_get (D := gD G) (ci := 5) (v := .int (nI q)) (C := RX5) (T := TX5) (N := 15) hx hb htu cu_in5 hown hK hP 4 cw_4 rfl 12 (by decide) (htu _ C_262) (fun _ h9 => h9) (m_v h12) dX5_under_2 ?_
  refine lv_iconst (v := 1) hx hb dX5_under_5 (by decide) ?_
  refine lv_iadd hx hb dX5_under_6 ?_
  refine m_top (y := nI (q + 1)) (nI_add q 1) ?_
  refine c_put4_12 (x := (nI (q + 1))) hx hb htu hown hK hP hD hS (htu _ C_262) dX5_under_7 (fun H locs hP hD hS => ?_)
  have S_1h : HS S (cO S 12 (nI (q + 1))) := hh
  have S_1c : CL (cO S 12 (nI (q + 1))) := hC
  have S_1p : PT S ≤ PT (cO S 12 (nI (q + 1))) := hpp
  refine c_eq (S1 := S) (S2 := cO S 12 (nI (q + 1))) rfl ?_
  have S_1w : AW [6, 7, 8, 9, 16, 14, 10, 11, 12, 13, 17, 18, 25, 26, 35] [8, 9, 10, 12] S (cO S 12 (nI (q + 1))) := (AW.o AW.rf (by decide))
  have hh := S_1h
  have hC := S_1c
  clear hpp
  have hpp := S_1p
  clear S_1p
  have ty1 : TY (cO S 12 (nI (q + 1))) T V V X Y Z := hY
  have tb1 : ∀ j, j < 2 * V → kK (cO S 12 (nI (q + 1))) (35 + j) ≤ q + V := hBD
  have e12 : (cO S 12 (nI (q + 1))).1 12 = nI (q + 1) := cO_s
  have ur1 : UR (cO S 12 (nI (q + 1))) T V Y q T V X Y Z (q + 1) (-6) := ⟨⟨ty1, e12, Nat.le_succ_of_le hZq, fun j hj => Nat.le_trans (tb1 j hj) (by omega)⟩, ⟨Nat.le_refl _, Nat.le_refl _, Nat.le_succ _, Nat.succ_le_succ hq, Nat.le_refl _, Nat.le_add_right _ _⟩, Or.inr (by decide), fun h => absurd h (by decide)⟩
  have e8 : (cO S 12 (nI (q + 1))).1 8 = nI tm := h8
  have hkq1 : KQ (cO S 12 (nI (q + 1))) z := KQ.aw hkq (rs := []) (is := [12]) (AW.o AW.rf (by decide)) (by decide) rfl rfl
  have hkq2 : KQ (cO S 12 (nI (q + 1))) (w1 z 0 2 (stp z + 1)) := KQ.aw hkq1 (rs := []) (is := []) AW.rf (by decide) rfl rfl
  have uc0 : UC S (cO S 12 (nI (q + 1))) Y tm z z tm := ⟨hz, hkq1, hm0, e8, Nat.le_refl _, Nat.le_refl _, by omega, sg0⟩
  refine lv_aload_n hx hb dX5_under_10 rfl (lv_at hl 0 rfl) ?_
  refine va_get (D := gD G) (ci := 5) (v := .int (nI (q + 1))) (C := RX5) (T := TX5) (N := 15) hx hb htu cu_in5 hown hK hP 4 cw_4 rfl 12 (by decide) (htu _ C_262) (fun _ h9 => h9) (m_v cO_s) dX5_under_11 ?_
  refine lv_sipush (v := 1500) hx hb dX5_under_14 (by decide) ?_
  refine lv_icmp_gt (tgt := 26) hx hb dX5_under_17 (by decide) (fun c_2 => ?_) (fun c_2 => ?_)
  · skip
    have nc_2 : 1500 < q + 1 := (nI_ltI (a := 1500) (b := q + 1) (by omega) (by omega)).mp c_2
    refine lv_bipush (v := (-6)) hx hb dX5_under_26 (by decide) ?_
    exact c_iret (v := (-6)) hx hb hr hK hP hD hS hC hh hpp ⟨S_1w, ⟨⟨_, _, _, _, _, _, ur1⟩, UE.mk (uc_stops uc0 1 (askn z)) (UM.sp h0 (by decide) rfl) (un_sp h0 (by have := nc_2; omega))⟩⟩ dX5_under_28 hlocks
  · skip
    have nc_2 : ¬ 1500 < q + 1 := fun h9 => c_2 ((nI_ltI (a := 1500) (b := q + 1) (by omega) (by omega)).mpr h9)
    refine lv_iload_n hx hb dX5_under_20 rfl (lv_at hl 3 rfl) ?_
    refine lv_bipush (v := 60) hx hb dX5_under_21 (by decide) ?_
    refine lv_icmp_le (tgt := 29) hx hb dX5_under_23 (by decide) (fun c_3 => absurd c_3 (fun h => by have h2 := (nI_leI (a := dp) (b := 60) (by omega) (by omega)).mp h; omega)) (fun c_3 => ?_)
    refine lv_bipush (v := (-6)) hx hb dX5_under_26 (by decide) ?_
    have uc2 : UC S (cO S 12 (nI (q + 1))) Y tm z (w1 z 0 2 (stp z + 1)) tm := ⟨hz.w 0 2 _ (Or.inl ⟨rfl, by decide⟩), hkq2, hm0, e8, Nat.le_refl _, Nat.add_le_add_left (Nat.le_succ _) tm, show stp z + 1 ≤ 1500 by have := nc_2; omega, sg0⟩
    exact c_iret (v := (-6)) hx hb hr hK hP hD hS hC hh hpp ⟨S_1w, ⟨⟨_, _, _, _, _, _, ur1⟩, UE.mk (uc_stops uc2 1 (askn z)) (UM.sp h0 (by decide) rfl) (un_0 h0 (by have := nc_2; omega))⟩⟩ dX5_under_28 hlocks

set_option maxHeartbeats 4000000 in
set_option maxRecDepth 100000 in
/-- under -/
theorem x_under_s (l : Launch) (G : cG) (S : cS) (fu : Nat) (T : Nat) (V : Nat) (X : Nat) (Y : Nat) (Z : Nat) (q : Nat) (dp : Nat) (z : aS) (a9 : Nat) (b9 : Nat) (tm : Nat) (hC : CL S) (ih : xUnderAt fu) (hU : US S T V X Y Z q) (hq : q ≤ 1500) (h15 : kK S 15 = 0) (hdp : dp + (fu + 1) = 61) (hY2 : Y + 366 ≤ 900) (hz : KT S z) (hkq : KQ S z) (hm0 : KM0 S tm) (h8 : S.1 8 = nI tm) (htm : tm + 1501 ≤ 2 ^ 29 + stp z) (h0 : sto z = 0) (hzq : stp z = q) (ha : a9 < nT z) (hb9 : b9 < nT z) (Hs : Heap) : Met l yX5_under (wC yX5_under cX5_under 8 (some .int)) (cRm S ((fu + 1) + 70) (40 * (fu + 1) + 3000)) (cPc G S Hs [.ref (ga G 4), .int (nI a9), .int (nI b9), .int (nI dp)]) (cQi G S Hs (fun v u => AW [6, 7, 8, 9, 16, 14, 10, 11, 12, 13, 17, 18, 25, 26, 35] [8, 9, 10, 12] S u ∧ (UX u T V Y q v ∧ UE S u Y tm z (un ((fu + 1)) z a9 b9) v))) (CC - PT S) (12 * (CC - PT S)) (cA G S Hs.size) := by
  refine Met.ofW (cc := cX5_under) (maxL := 8) (ret := (some .int)) (by decide) rfl ?_
  intro p e s m args below meth c s₁ B hml hv
  obtain ⟨rfl, hsz, hP, hK, hD0, -⟩ := hv
  have hx := B.exec
  have hb := B.bytes
  have hr := B.returns
  have htu : ∀ w ∈ CU, w.before _ s = true := fun w h => atoms_spec (ws := (wC yX5_under cX5_under 8 (some .int))) B.pre w (List.mem_cons_of_mem _ h)
  have hown : s.vm.findClass RX5 = some m.cls := findClass_of_methodNamed B.named
  have hlocks := B.notSynchronized
  subst hsz
  have hD : cD (cA G S s.heap.size) G S := cD_self hD0
  have hl := lv_entry ([.ref (ga G 4), .int (nI a9), .int (nI b9), .int (nI dp)]) (n := 8) (Nat.le_of_ble_eq_true rfl)
  rw [lg_entry_eq]
  generalize (lg_sl ([.ref (ga G 4), .int (nI a9), .int (nI b9), .int (nI dp)]) ++ List.replicate (8 - (lg_sl ([.ref (ga G 4), .int (nI a9), .int (nI b9), .int (nI dp)])).length) Slot.unset).toArray = ls at hl ⊢
  have hl : lv_has ls 8 [(0, .ref (ga G 4)), (1, .int (nI a9)), (2, .int (nI b9)), (3, .int (nI dp))] := hl
  obtain ⟨H, hHe⟩ : ∃ H : Heap, H = s.heap := ⟨_, rfl⟩
  rw [← hHe] at hP
  have hS : va_S (cA G S s.heap.size) s.heap H [] := by rw [hHe]; exact va_S.rf
  have hh : HS S S := HS.rf
  have hpp : PT S ≤ PT S := Nat.le_refl _
  have hB9 := hC.1
  refine W.heq hHe ?_
  refine c_ent (S := S) ?_
  obtain ⟨hY, h12, hZq, hBD⟩ := id hU
  obtain ⟨tT, tV, tB, tX⟩ := id hY.2.1
  have sg0 : ∀ j, j < Y → kF S 12 j = kF S 12 j ∧ kF S 13 j = kF S 13 j := fun _ _ => ⟨rfl, rfl⟩
  refine lv_aload_n hx hb dX5_under_0 rfl (lv_at hl 0 rfl) ?_
  refine lv_dup hx hb dX5_under_1 rfl ?_
  refine va_get (D := gD G) (ci := 5) (v := .int (nI q)) (C := RX5) (T := TX5) (N := 15) hx hb htu cu_in5 hown hK hP 4 cw_4 rfl 12 (by decide) (htu _ C_262) (fun _ h9 => h9) (m_v h12) dX5_under_2 ?_
  refine lv_iconst (v := 1) hx hb dX5_under_5 (by decide) ?_
  refine lv_iadd hx hb dX5_under_6 ?_
  refine m_top (y := nI (q + 1)) (nI_add q 1) ?_
  refine c_put4_12 (x := (nI (q + 1))) hx hb htu hown hK hP hD hS (htu _ C_262) dX5_under_7 (fun H locs hP hD hS => ?_)
  have S_1h : HS S (cO S 12 (nI (q + 1))) := hh
  have S_1c : CL (cO S 12 (nI (q + 1))) := hC
  have S_1p : PT S ≤ PT (cO S 12 (nI (q + 1))) := hpp
  refine c_eq (S1 := S) (S2 := cO S 12 (nI (q + 1))) rfl ?_
  have S_1w : AW [6, 7, 8, 9, 16, 14, 10, 11, 12, 13, 17, 18, 25, 26, 35] [8, 9, 10, 12] S (cO S 12 (nI (q + 1))) := (AW.o AW.rf (by decide))
  have hh := S_1h
  have hC := S_1c
  clear hpp
  have hpp := S_1p
  clear S_1p
  have ty1 : TY (cO S 12 (nI (q + 1))) T V V X Y Z := hY
  have tb1 : ∀ j, j < 2 * V → kK (cO S 12 (nI (q + 1))) (35 + j) ≤ q + V := hBD
  have e12 : (cO S 12 (nI (q + 1))).1 12 = nI (q + 1) := cO_s
  have ur1 : UR (cO S 12 (nI (q + 1))) T V Y q T V X Y Z (q + 1) (-6) := ⟨⟨ty1, e12, Nat.le_succ_of_le hZq, fun j hj => Nat.le_trans (tb1 j hj) (by omega)⟩, ⟨Nat.le_refl _, Nat.le_refl _, Nat.le_succ _, Nat.succ_le_succ hq, Nat.le_refl _, Nat.le_add_right _ _⟩, Or.inr (by decide), fun h => absurd h (by decide)⟩
  have e8 : (cO S 12 (nI (q + 1))).1 8 = nI tm := h8
  have hkq1 : KQ (cO S 12 (nI (q + 1))) z := KQ.aw hkq (rs := []) (is := [12]) (AW.o AW.rf (by decide)) (by decide) rfl rfl
  have hkq2 : KQ (cO S 12 (nI (q + 1))) (w1 z 0 2 (stp z + 1)) := KQ.aw hkq1 (rs := []) (is := []) AW.rf (by decide) rfl rfl
  have uc0 : UC S (cO S 12 (nI (q + 1))) Y tm z z tm := ⟨hz, hkq1, hm0, e8, Nat.le_refl _, Nat.le_refl _, by omega, sg0⟩
  refine lv_aload_n hx hb dX5_under_10 rfl (lv_at hl 0 rfl) ?_
  refine va_get (D := gD G) (ci := 5) (v := .int (nI (q + 1))) (C := RX5) (T := TX5) (N := 15) hx hb htu cu_in5 hown hK hP 4 cw_4 rfl 12 (by decide) (htu _ C_262) (fun _ h9 => h9) (m_v cO_s) dX5_under_11 ?_
  refine lv_sipush (v := 1500) hx hb dX5_under_14 (by decide) ?_
  refine lv_icmp_gt (tgt := 26) hx hb dX5_under_17 (by decide) (fun c_2 => ?_) (fun c_2 => ?_)
  · skip
    have nc_2 : 1500 < q + 1 := (nI_ltI (a := 1500) (b := q + 1) (by omega) (by omega)).mp c_2
    refine lv_bipush (v := (-6)) hx hb dX5_under_26 (by decide) ?_
    exact c_iret (v := (-6)) hx hb hr hK hP hD hS hC hh hpp ⟨S_1w, ⟨⟨_, _, _, _, _, _, ur1⟩, UE.mk (uc_stops uc0 1 (askn z)) (UM.sp h0 (by decide) rfl) (un_sp h0 (by have := nc_2; omega))⟩⟩ dX5_under_28 hlocks
  · skip
    have nc_2 : ¬ 1500 < q + 1 := fun h9 => c_2 ((nI_ltI (a := 1500) (b := q + 1) (by omega) (by omega)).mpr h9)
    refine lv_iload_n hx hb dX5_under_20 rfl (lv_at hl 3 rfl) ?_
    refine lv_bipush (v := 60) hx hb dX5_under_21 (by decide) ?_
    refine lv_icmp_le (tgt := 29) hx hb dX5_under_23 (by decide) (fun c_3 => ?_) (fun c_3 => absurd ((nI_leI (a := dp) (b := 60) (by omega) (by omega)).mpr (by omega)) c_3)
    refine lv_aload_n hx hb dX5_under_29 rfl (lv_at hl 0 rfl) ?_
    refine va_get (D := gD G) (ci := 5) (v := .ref (ga G 2)) (C := RX5) (T := TX5) (N := 15) hx hb htu cu_in5 hown hK hP 4 cw_4 rfl 1 (by decide) (htu _ C_45) (fun _ h9 => h9) rfl dX5_under_30 ?_
    refine lv_iload_n hx hb dX5_under_33 rfl (lv_at hl 1 rfl) ?_
    refine lv_iload_n hx hb dX5_under_34 rfl (lv_at hl 2 rfl) ?_
    have hC0 := hC
    refine c_ci (c_runV (As := [.int (nI a9), .int (nI b9)]) (rest := []) (q0 := 2) (ci := 4) ⟨hx, hb, hml, hown, htu⟩ (x_wasAsked l G (cO S 12 (nI (q + 1))) T V V X Y Z z a9 b9 hC ty1 ((by omega)) hkq1 hz.1.2.2.2.2.2.2.2.1 ha hb9 H) (cwV 2 htu hU_X5_171 rfl rfl rfl (by decide +kernel) ⟨show 3 + 1 ≤ (fu + 1) + 70 by omega, show 8 + (7 + 11) + 103 ≤ 40 * (fu + 1) + 3000 by omega⟩) hP hK hD hC hpp cw_2 rfl rfl hl.1 rfl (lv_room (Nat.le_of_ble_eq_true rfl)) dX5_under_35) hS hD hh hpp (fun r_4 S_5 H locs hw_6 hP hD hS hC hh hs_7 hpq => ?_)
    clear hpp
    have hpp := hpq
    clear hpq
    try dsimp only at hw_6
    have aw_8 : AW [16, 17, 18] [] (cO S 12 (nI (q + 1))) S_5 := hw_6.1
    have aw_8t : AW [6, 7, 8, 9, 16, 14, 10, 11, 12, 13, 17, 18, 25, 26, 35] [8, 9, 10, 12] S S_5 := S_1w.tr (aw_8.mono (by decide) (by decide))
    have kk_9 : kK S_5 15 = 0 := (aw_8.2.1 15 (lt35 (by decide)) (by decide)).2.trans h15
    have ii_10 : S_5.1 12 = nI (q + 1) := (aw_8.1 12 (by decide)).trans cO_s
    have ii_11 : S_5.1 8 = nI tm := (aw_8.1 8 (by decide)).trans ((cO_n (show 8 ≠ 12 by decide)).trans h8)
    have s15 : stp z ≠ 1500 := by have := nc_2; omega
    have hw_69 := hw_6.2
    clear hw_6
    rcases hw_69 with ⟨ty_12v, ty_12s, ty_12m⟩ | ⟨ty_12v, ty_12m, ty_12, ty_12q⟩
    · skip
      subst ty_12v
      refine lv_if_eq (tgt := 43) hx hb dX5_under_38 (by decide) (fun c_13 => absurd c_13 (by decide)) (fun c_13 => ?_)
      refine lv_iconst (v := 0) hx hb dX5_under_41 (by decide) ?_
      have hus := ty_12s
      subst hus
      exact c_iret (v := 0) hx hb hr hK hP hD hS hC hh hpp ⟨aw_8t, ⟨⟨_, _, _, _, _, _, ur1.1, ur1.2.1, Or.inl rfl, fun _ => ⟨by omega, rfl⟩⟩, UE.mk (S := S) (t1 := tm) (r := w1 z 0 2 (stp z + 1)) ⟨hz.w 0 2 _ (Or.inl ⟨rfl, by decide⟩), hkq2, hm0, e8, Nat.le_refl _, Nat.add_le_add_left (Nat.le_succ _) tm, show stp z + 1 ≤ 1500 by omega, sg0⟩ ⟨fun _ => ⟨rfl, e12.trans (by rw [← hzq]; rfl)⟩, fun h => absurd h0 h⟩ (un_as h0 s15 ty_12m)⟩⟩ dX5_under_42 hlocks
    · skip
      subst ty_12v
      refine lv_if_eq (tgt := 43) hx hb dX5_under_38 (by decide) (fun c_14 => ?_) (fun c_14 => absurd (by decide) c_14)
      have tb2 : ∀ j, j < 2 * V → kK S_5 (35 + j) ≤ q + V := US.one ty_12 aw_8 (by decide) (show 2 * V ≤ kB S from tB) tb1
      have e12b : S_5.1 12 = nI (q + 1) := ii_10
      have q15 : q + 1 ≤ 1500 := by omega
      have ur2 : UR S_5 T V Y q T V X Y (Z + 1) (q + 1) 0 := ⟨⟨ty_12, e12b, Nat.succ_le_succ hZq, fun j hj => Nat.le_trans (tb2 j hj) (by omega)⟩, ⟨Nat.le_refl _, Nat.le_refl _, Nat.le_succ _, Nat.succ_le_succ hq, Nat.le_refl _, Nat.le_add_right _ _⟩, Or.inl rfl, fun _ => ⟨q15, rfl⟩⟩
      obtain ⟨z1, hz1⟩ : ∃ z1, z1 = asked (w1 z 0 2 (stp z + 1)) a9 b9 := ⟨_, rfl⟩
      have hun : un (fu + 1) z a9 b9 = asks (un fu) z1 a9 b9 := by rw [hz1]; exact un_go h0 s15 ty_12m
      have ktS : KT S_5 z := KT.aw (S := (cO S 12 (nI (q + 1)))) hz aw_8 (by decide)
      have kt1 : KT S_5 z1 := by rw [hz1]; exact kt_asked (ktS.w 0 2 (stp z + 1) (Or.inl ⟨rfl, by decide⟩)) a9 b9
      have kq1 : KQ S_5 z1 := by rw [hz1]; exact KQ.aw ty_12q (rs := []) (is := []) AW.rf (by decide) rfl rfl
      have km1 : KM0 S_5 tm := KM0.aw (S := (cO S 12 (nI (q + 1)))) hm0 aw_8 (by decide)
      have t81 : S_5.1 8 = nI tm := (aw_8.1 8 (by decide)).trans e8
      have h01 : sto z1 = 0 := by rw [hz1]; exact h0
      have sq1 : stp z1 = q + 1 := by rw [hz1, ← hzq]; rfl
      have nz1 : nT z1 = nT z := by rw [hz1]; rfl
      have a1 : a9 < nT z1 := by omega
      have b1 : b9 < nT z1 := by omega
      have sg1 := sg_aw (S1 := (cO S 12 (nI (q + 1)))) (Y := Y) sg0 aw_8 (by decide)
      have uc1 : UC S S_5 Y tm z z1 tm := ⟨kt1, kq1, km1, t81, Nat.le_refl _, by omega, by omega, sg1⟩
      have nV1 : nV z1 = V := kt1.1.2.2.2.2.1.symm.trans ty_12.1.2.2.2.2.2.1
      have nT1 : nT z1 = T := kt1.1.1.symm.trans ty_12.1.1
      have lva := kt1.lv a1
      have lvb := kt1.lv b1
      refine lv_iconst (v := 0) hx hb dX5_under_43 (by decide) ?_
      refine lv_istore (lv' := [(4, .int 0), (0, .ref (ga G 4)), (1, .int (nI a9)), (2, .int (nI b9)), (3, .int (nI dp))]) hx hb dX5_under_44 hl (by decide) rfl (fun ls hl => ?_)
      refine lv_aload_n hx hb dX5_under_46 rfl (lv_at hl 1 rfl) ?_
      refine lv_iload_n hx hb dX5_under_47 rfl (lv_at hl 2 rfl) ?_
      refine lv_iload_n hx hb dX5_under_48 rfl (lv_at hl 3 rfl) ?_
      have hC0 := hC
      refine c_ci (c_runV (As := [.int (nI a9), .int (nI b9)]) (rest := []) (q0 := 4) (ci := 5) ⟨hx, hb, hml, hown, htu⟩ (x_whatIsDue l G S_5 z1 a9 b9 hC kt1 a1 b1 H) (cwV 2 htu hU_X5_175 rfl rfl rfl (by decide +kernel) ⟨show 2 + 1 ≤ (fu + 1) + 70 by omega, show 8 + (5 + 11) + 42 ≤ 40 * (fu + 1) + 3000 by omega⟩) hP hK hD hC hpp cw_4 rfl rfl hl.1 rfl (lv_room (Nat.le_of_ble_eq_true rfl)) dX5_under_49) hS hD hh hpp (fun r_15 S_16 H locs hw_17 hP hD hS hC hh hs_18 hpq => ?_)
      clear hpp
      have hpp := hpq
      clear hpq
      obtain ⟨-, hu9, hw_17⟩ := hw_17
      have hu9 := hu9.symm
      subst hu9
      have hw_179 := hw_17
      clear hw_17
      rcases hw_179 with ⟨wd_19, wd_19a, wd_19b⟩ | ⟨wd_19, wd_19a, wd_19b⟩ | ⟨wd_19, wd_19a, wd_19b⟩ | ⟨wd_19, wd_19a, wd_19b⟩ | ⟨wd_19, wd_19a, wd_19b, wd_19c⟩ | ⟨wd_19, wd_19a, wd_19b, wd_19c⟩ | ⟨wd_19, wd_19a, wd_19b, wd_19c⟩ | ⟨wd_19, wd_19a, wd_19b, wd_19c⟩
      · skip
        subst wd_19
        refine lv_tableIn (tgt := 96) hx hb dX5_under_52 (by decide) (by decide) (by rfl) (by decide) ?_
        refine lv_iconst (v := 0) hx hb dX5_under_96 (by decide) ?_
        exact c_iret (v := 0) hx hb hr hK hP hD hS hC hh hpp ⟨aw_8t, ⟨⟨_, _, _, _, _, _, ur2⟩, UE.mk uc1 ⟨fun _ => ⟨rfl, e12b.trans (by rw [sq1])⟩, fun h => absurd h01 h⟩ (by rw [hun, asks_0 ⟨wd_19a, wd_19b⟩])⟩⟩ dX5_under_97 hlocks
      · skip
        subst wd_19
        refine lv_tableIn (tgt := 98) hx hb dX5_under_52 (by decide) (by decide) (by rfl) (by decide) ?_
        refine lv_aload_n hx hb dX5_under_98 rfl (lv_at hl 1 rfl) ?_
        refine lv_aload_n hx hb dX5_under_99 rfl (lv_at hl 1 rfl) ?_
        refine va_get (D := gD G) (ci := 5) (v := .ref (ga G 2)) (C := RX5) (T := TX5) (N := 15) hx hb htu cu_in5 hown hK hP 4 cw_4 rfl 1 (by decide) (htu _ C_45) (fun _ h9 => h9) rfl dX5_under_100 ?_
        refine lv_iload_n hx hb dX5_under_103 rfl (lv_at hl 3 rfl) ?_
        have hC0 := hC
        refine c_ci (c_runV (As := [.int (nI b9)]) (rest := [.ref (ga G 4)]) (q0 := 2) (ci := 4) ⟨hx, hb, hml, hown, htu⟩ (y_firstOf l G S_5 (nI b9) hC  H) (cwV 1 htu hU_X5_178 rfl rfl rfl (by decide +kernel) ⟨show 1 + 1 ≤ (fu + 1) + 70 by omega, show 8 + (2 + 11) + 21 ≤ 40 * (fu + 1) + 3000 by omega⟩) hP hK hD hC hpp cw_2 rfl rfl hl.1 rfl (lv_room (Nat.le_of_ble_eq_true rfl)) dX5_under_104) hS hD hh hpp (fun r_21 S_22 H locs hw_23 hP hD hS hC hh hs_24 hpq => ?_)
        clear hpp
        have hpp := hpq
        clear hpq
        obtain ⟨-, hu9, hw_23⟩ := hw_23
        have hu9 := hu9.symm
        subst hu9
        obtain ⟨fo_201, fo_202, fo_203, fo_204⟩ := kt1.f1 b1 wd_19b
        obtain rfl : r_21 = nI (one z1 b9) := hw_23.trans fo_201
        refine lv_aload_n hx hb dX5_under_107 rfl (lv_at hl 1 rfl) ?_
        refine va_get (D := gD G) (ci := 5) (v := .ref (ga G 2)) (C := RX5) (T := TX5) (N := 15) hx hb htu cu_in5 hown hK hP 4 cw_4 rfl 1 (by decide) (htu _ C_45) (fun _ h9 => h9) rfl dX5_under_108 ?_
        refine lv_iload_n hx hb dX5_under_111 rfl (lv_at hl 2 rfl) ?_
        have hC0 := hC
        refine c_ci (c_runV (As := [.int (nI a9)]) (rest := [.int (nI (one z1 b9)), .ref (ga G 4)]) (q0 := 2) (ci := 4) ⟨hx, hb, hml, hown, htu⟩ (y_firstOf l G S_5 (nI a9) hC  H) (cwV 1 htu hU_X5_178 rfl rfl rfl (by decide +kernel) ⟨show 1 + 1 ≤ (fu + 1) + 70 by omega, show 8 + (2 + 11) + 21 ≤ 40 * (fu + 1) + 3000 by omega⟩) hP hK hD hC hpp cw_2 rfl rfl hl.1 rfl (lv_room (Nat.le_of_ble_eq_true rfl)) dX5_under_112) hS hD hh hpp (fun r_26 S_27 H locs hw_28 hP hD hS hC hh hs_29 hpq => ?_)
        clear hpp
        have hpp := hpq
        clear hpq
        obtain ⟨-, hu9, hw_28⟩ := hw_28
        have hu9 := hu9.symm
        subst hu9
        obtain ⟨fo_251, fo_252, fo_253, fo_254⟩ := kt1.f1 a1 wd_19a
        obtain rfl : r_26 = nI (one z1 a9) := hw_28.trans fo_251
        refine lv_iload_n hx hb dX5_under_115 rfl (lv_at hl 4 rfl) ?_
        refine lv_iconst (v := 1) hx hb dX5_under_116 (by decide) ?_
        refine lv_iadd hx hb dX5_under_117 ?_
        refine m_top (y := nI (dp + 1)) (nI_add dp 1) ?_
        have hC0 := hC
        refine c_ci (c_runV (As := [.int (nI (one z1 b9)), .int (nI (one z1 a9)), .int (nI (dp + 1))]) (rest := []) (q0 := 4) (ci := 5) ⟨hx, hb, hml, hown, htu⟩ (ih l G S_5 T V X Y ((Z + 1)) ((q + 1)) (dp + 1) z1 ((one z1 b9)) ((one z1 a9)) tm hC ur2.1 ((by omega)) kk_9 ((by omega)) hY2 uc1.1 uc1.2.1 uc1.2.2.1 uc1.2.2.2.1 ((by have := uc1.2.2.2.2; omega)) h01 sq1 fo_203 fo_253 H) (cwV 3 htu hU_X5_150 rfl rfl rfl (by decide +kernel) ⟨show (fu + 70) + 1 ≤ (fu + 1) + 70 by omega, show 8 + (8 + 11) + (40 * fu + 3000) ≤ 40 * (fu + 1) + 3000 by omega⟩) hP hK hD hC hpp cw_4 rfl rfl hl.1 rfl (lv_room (Nat.le_of_ble_eq_true rfl)) dX5_under_118) hS hD hh hpp (fun r_30 S_31 H locs hw_32 hP hD hS hC hh hs_33 hpq => ?_)
        clear hpp
        have hpp := hpq
        clear hpq
        try dsimp only at hw_32
        have aw_34 : AW [6, 7, 8, 9, 16, 14, 10, 11, 12, 13, 17, 18, 25, 26, 35] [8, 9, 10, 12] S_5 S_31 := hw_32.1
        have aw_34t : AW [6, 7, 8, 9, 16, 14, 10, 11, 12, 13, 17, 18, 25, 26, 35] [8, 9, 10, 12] S S_31 := aw_8t.tr (aw_34.mono (by decide) (by decide))
        have kk_35 : kK S_31 15 = 0 := (aw_34.2.1 15 (lt35 (by decide)) (by decide)).2.trans kk_9
        obtain ⟨ux_36W, ux_36E⟩ := hw_32.2
        clear hw_32
        have ux_36x := ur2.tr ux_36W
        obtain ⟨ux_36T, ux_36V, ux_36X, ux_36Y, ux_36Z, ux_36q, ux_36⟩ := id ux_36x
        obtain ⟨ux_36R, ux_36e⟩ : ∃ R, un fu z1 ((one z1 b9)) ((one z1 a9)) = R := ⟨_, rfl⟩
        rw [ux_36e] at ux_36E
        obtain ⟨⟨ux_36t, ux_36u0⟩, ux_36M⟩ := ux_36E
        have ux_36uc := UC.tr uc1 ux_36u0
        have ux_36L0 : Lx z1 ux_36R := by rw [← ux_36e]; exact x_un fu _ _ _
        have ux_36L := Lx.tr Lx.rf ux_36L0
        refine lv_istore (lv' := [(4, .int r_30), (0, .ref (ga G 4)), (1, .int (nI a9)), (2, .int (nI b9)), (3, .int (nI dp))]) hx hb dX5_under_121 hl (by decide) rfl (fun ls hl => ?_)
        refine lv_iload hx hb dX5_under_123 (lv_at hl 0 rfl) ?_
        refine lv_if_ge (tgt := 133) hx hb dX5_under_125 (by decide) (fun c_37 => ?_) (fun c_37 => ?_)
        · skip
          have ux_36v0 := (ux_36.z c_37)
          obtain ⟨ux_36k, ux_36l⟩ := ux_36.ok ux_36v0
          have ux_36z := ux_36M.of0 ux_36v0
          have ux_36sq : stp ux_36R = ux_36q := (nI_eq (by have := ux_36uc.2.2.2.2.2.2.1; omega) (by omega)).mp ((ux_36M.1 ux_36z).2.symm.trans ux_36k.1.2.1)
          refine lv_aload_n hx hb dX5_under_133 rfl (lv_at hl 1 rfl) ?_
          refine lv_aload_n hx hb dX5_under_134 rfl (lv_at hl 1 rfl) ?_
          refine va_get (D := gD G) (ci := 5) (v := .ref (ga G 2)) (C := RX5) (T := TX5) (N := 15) hx hb htu cu_in5 hown hK hP 4 cw_4 rfl 1 (by decide) (htu _ C_45) (fun _ h9 => h9) rfl dX5_under_135 ?_
          refine lv_iload_n hx hb dX5_under_138 rfl (lv_at hl 2 rfl) ?_
          have hC0 := hC
          refine c_ci (c_runV (As := [.int (nI a9)]) (rest := [.ref (ga G 4)]) (q0 := 2) (ci := 4) ⟨hx, hb, hml, hown, htu⟩ (y_secondOf l G S_31 (nI a9) hC  H) (cwV 1 htu hU_X5_181 rfl rfl rfl (by decide +kernel) ⟨show 1 + 1 ≤ (fu + 1) + 70 by omega, show 8 + (2 + 11) + 21 ≤ 40 * (fu + 1) + 3000 by omega⟩) hP hK hD hC hpp cw_2 rfl rfl hl.1 rfl (lv_room (Nat.le_of_ble_eq_true rfl)) dX5_under_139) hS hD hh hpp (fun r_39 S_40 H locs hw_41 hP hD hS hC hh hs_42 hpq => ?_)
          clear hpp
          have hpp := hpq
          clear hpq
          obtain ⟨-, hu9, hw_41⟩ := hw_41
          have hu9 := hu9.symm
          subst hu9
          obtain ⟨fo_38l1, fo_38l2, fo_38l3, fo_38l4, fo_38l5, fo_38l6, fo_38l7⟩ := lx_at ux_36L a1
          obtain ⟨fo_381, fo_382, fo_383, fo_384⟩ := ux_36uc.1.f1 fo_38l1 (fo_38l2.trans wd_19a)
          rw [fo_38l4] at fo_381 fo_383
          rw [fo_38l5] at fo_382 fo_384
          obtain rfl : r_39 = nI (two z1 a9) := hw_41.trans fo_382
          refine lv_aload_n hx hb dX5_under_142 rfl (lv_at hl 1 rfl) ?_
          refine va_get (D := gD G) (ci := 5) (v := .ref (ga G 2)) (C := RX5) (T := TX5) (N := 15) hx hb htu cu_in5 hown hK hP 4 cw_4 rfl 1 (by decide) (htu _ C_45) (fun _ h9 => h9) rfl dX5_under_143 ?_
          refine lv_iload_n hx hb dX5_under_146 rfl (lv_at hl 3 rfl) ?_
          have hC0 := hC
          refine c_ci (c_runV (As := [.int (nI b9)]) (rest := [.int (nI (two z1 a9)), .ref (ga G 4)]) (q0 := 2) (ci := 4) ⟨hx, hb, hml, hown, htu⟩ (y_secondOf l G S_31 (nI b9) hC  H) (cwV 1 htu hU_X5_181 rfl rfl rfl (by decide +kernel) ⟨show 1 + 1 ≤ (fu + 1) + 70 by omega, show 8 + (2 + 11) + 21 ≤ 40 * (fu + 1) + 3000 by omega⟩) hP hK hD hC hpp cw_2 rfl rfl hl.1 rfl (lv_room (Nat.le_of_ble_eq_true rfl)) dX5_under_147) hS hD hh hpp (fun r_44 S_45 H locs hw_46 hP hD hS hC hh hs_47 hpq => ?_)
          clear hpp
          have hpp := hpq
          clear hpq
          obtain ⟨-, hu9, hw_46⟩ := hw_46
          have hu9 := hu9.symm
          subst hu9
          obtain ⟨fo_43l1, fo_43l2, fo_43l3, fo_43l4, fo_43l5, fo_43l6, fo_43l7⟩ := lx_at ux_36L b1
          obtain ⟨fo_431, fo_432, fo_433, fo_434⟩ := ux_36uc.1.f1 fo_43l1 (fo_43l2.trans wd_19b)
          rw [fo_43l4] at fo_431 fo_433
          rw [fo_43l5] at fo_432 fo_434
          obtain rfl : r_44 = nI (two z1 b9) := hw_46.trans fo_432
          refine lv_iload_n hx hb dX5_under_150 rfl (lv_at hl 4 rfl) ?_
          refine lv_iconst (v := 1) hx hb dX5_under_151 (by decide) ?_
          refine lv_iadd hx hb dX5_under_152 ?_
          refine m_top (y := nI (dp + 1)) (nI_add dp 1) ?_
          have hC0 := hC
          refine c_ci (c_runV (As := [.int (nI (two z1 a9)), .int (nI (two z1 b9)), .int (nI (dp + 1))]) (rest := []) (q0 := 4) (ci := 5) ⟨hx, hb, hml, hown, htu⟩ (ih l G S_31 ux_36T ux_36V ux_36X Y ux_36Z ux_36q (dp + 1) ux_36R ((two z1 a9)) ((two z1 b9)) ux_36t hC ux_36k.1 ((by omega)) kk_35 ((by omega)) hY2 ux_36uc.1 ux_36uc.2.1 ux_36uc.2.2.1 ux_36uc.2.2.2.1 ((by have := ux_36uc.2.2.2.2; omega)) ux_36z ux_36sq fo_384 fo_434 H) (cwV 3 htu hU_X5_150 rfl rfl rfl (by decide +kernel) ⟨show (fu + 70) + 1 ≤ (fu + 1) + 70 by omega, show 8 + (8 + 11) + (40 * fu + 3000) ≤ 40 * (fu + 1) + 3000 by omega⟩) hP hK hD hC hpp cw_4 rfl rfl hl.1 rfl (lv_room (Nat.le_of_ble_eq_true rfl)) dX5_under_153) hS hD hh hpp (fun r_48 S_49 H locs hw_50 hP hD hS hC hh hs_51 hpq => ?_)
          clear hpp
          have hpp := hpq
          clear hpq
          try dsimp only at hw_50
          have aw_52 : AW [6, 7, 8, 9, 16, 14, 10, 11, 12, 13, 17, 18, 25, 26, 35] [8, 9, 10, 12] S_31 S_49 := hw_50.1
          have aw_52t : AW [6, 7, 8, 9, 16, 14, 10, 11, 12, 13, 17, 18, 25, 26, 35] [8, 9, 10, 12] S S_49 := aw_34t.tr (aw_52.mono (by decide) (by decide))
          have kk_53 : kK S_49 15 = 0 := (aw_52.2.1 15 (lt35 (by decide)) (by decide)).2.trans kk_35
          obtain ⟨ux_54W, ux_54E⟩ := hw_50.2
          clear hw_50
          have ux_54x := ux_36k.tr ux_54W
          obtain ⟨ux_54T, ux_54V, ux_54X, ux_54Y, ux_54Z, ux_54q, ux_54⟩ := id ux_54x
          obtain ⟨ux_54R, ux_54e⟩ : ∃ R, un fu ux_36R ((two z1 a9)) ((two z1 b9)) = R := ⟨_, rfl⟩
          rw [ux_54e] at ux_54E
          obtain ⟨⟨ux_54t, ux_54u0⟩, ux_54M⟩ := ux_54E
          have ux_54uc := UC.tr ux_36uc ux_54u0
          have ux_54L0 : Lx ux_36R ux_54R := by rw [← ux_54e]; exact x_un fu _ _ _
          have ux_54L := Lx.tr ux_36L ux_54L0
          exact c_iret (v := r_48) hx hb hr hK hP hD hS hC hh hpp ⟨aw_52t, ⟨ux_54x, UE.mk ux_54uc ux_54M (by rw [hun, asks_1 wd_19a wd_19b, ux_36e, ux_54e])⟩⟩ dX5_under_156 hlocks
        · skip
          refine lv_iload hx hb dX5_under_128 (lv_at hl 0 rfl) ?_
          refine lv_goto (tgt := 156) hx hb dX5_under_130 (by decide) ?_
          exact c_iret (v := r_30) hx hb hr hK hP hD hS hC hh hpp ⟨aw_34t, ⟨ux_36x, UE.mk ux_36uc ux_36M (by rw [hun, asks_1 wd_19a wd_19b, ux_36e, un_st (ux_36M.nn c_37)])⟩⟩ dX5_under_156 hlocks
      · skip
        subst wd_19
        refine lv_tableIn (tgt := 157) hx hb dX5_under_52 (by decide) (by decide) (by rfl) (by decide) ?_
        refine lv_aload_n hx hb dX5_under_157 rfl (lv_at hl 1 rfl) ?_
        refine va_get (D := gD G) (ci := 5) (v := .ref (ga G 2)) (C := RX5) (T := TX5) (N := 15) hx hb htu cu_in5 hown hK hP 4 cw_4 rfl 1 (by decide) (htu _ C_45) (fun _ h9 => h9) rfl dX5_under_158 ?_
        refine lv_iload_n hx hb dX5_under_161 rfl (lv_at hl 3 rfl) ?_
        have hC0 := hC
        refine c_ci (c_runV (As := [.int (nI b9)]) (rest := []) (q0 := 2) (ci := 4) ⟨hx, hb, hml, hown, htu⟩ (x_fieldCount l G S_5 (nI b9) hC  H) (cwV 1 htu hU_X5_184 rfl rfl rfl (by decide +kernel) ⟨show 1 + 1 ≤ (fu + 1) + 70 by omega, show 8 + (2 + 11) + 21 ≤ 40 * (fu + 1) + 3000 by omega⟩) hP hK hD hC hpp cw_2 rfl rfl hl.1 rfl (lv_room (Nat.le_of_ble_eq_true rfl)) dX5_under_162) hS hD hh hpp (fun r_55 S_56 H locs hw_57 hP hD hS hC hh hs_58 hpq => ?_)
        clear hpp
        have hpp := hpq
        clear hpq
        obtain ⟨-, hu9, hw_57⟩ := hw_57
        have hu9 := hu9.symm
        subst hu9
        obtain ⟨cb1, cb2, cb3⟩ := kt1.cnt b1 wd_19b
        obtain rfl : r_55 = nI (parts z1 b9).length := (hw_57 ((kt1.is b1 (k := 3) (by decide) (by decide)).mpr (by rw [wd_19b]))).trans cb1
        clear hw_57
        refine lv_istore (lv' := [(5, .int (nI ((parts z1 b9).length))), (4, .int 0), (0, .ref (ga G 4)), (1, .int (nI a9)), (2, .int (nI b9)), (3, .int (nI dp))]) hx hb dX5_under_165 hl (by decide) rfl (fun ls hl => ?_)
        refine lv_iconst (v := 0) hx hb dX5_under_167 (by decide) ?_
        refine lv_istore (lv' := [(6, .int 0), (5, .int (nI ((parts z1 b9).length))), (4, .int 0), (0, .ref (ga G 4)), (1, .int (nI a9)), (2, .int (nI b9)), (3, .int (nI dp))]) hx hb dX5_under_168 hl (by decide) rfl (fun ls hl => ?_)
        refine w_loop (fun j H locs k sl g => ∃ (S1 : cS) (T1 : Nat) (V1 : Nat) (X1 : Nat) (Y1 : Nat) (Z1 : Nat) (q1 : Nat) (zi : aS) (t1 : Nat) (mt : Int32) (i : Nat) (ls : Array Slot), CL S1 ∧ HS S S1 ∧ PT S ≤ PT S1 ∧ AW [6, 7, 8, 9, 16, 14, 10, 11, 12, 13, 17, 18, 25, 26, 35] [8, 9, 10, 12] S S1 ∧ i + j = (parts z1 b9).length ∧ UR S1 T V Y q T1 V1 X1 Y1 Z1 q1 mt ∧ UC S S1 Y tm z zi t1 ∧ UM S1 zi mt ∧ Lx z1 zi ∧ unR (un fu) a9 z1 (labs z1 b9) (parts z1 b9) = unR (un fu) a9 zi ((labs z1 b9).drop i) ((parts z1 b9).drop i) ∧ k = PT S1 - PT S ∧ sl = 12 * (PT S1 - PT S) ∧ cP G S1 H ∧ cD (cA G S s.heap.size) G S1 ∧ va_S (cA G S s.heap.size) s.heap H locs ∧ lv_has ls 8 [(0, .ref (ga G 4)), (1, .int (nI a9)), (2, .int (nI b9)), (3, .int (nI dp)), (4, .int mt), (5, .int (nI ((parts z1 b9).length))), (6, .int (nI i))] ∧ g = F0 m 170 ls []) ?_ ?_ ((parts z1 b9).length) _ _ _ _ _ ⟨S_5, T, V, X, Y, (Z + 1), (q + 1), z1, tm, 0, 0, ls, hC, hh, hpp, aw_8t, by omega, ur2, uc1, ⟨fun _ => ⟨rfl, e12b.trans (by rw [sq1])⟩, fun h => absurd h01 h⟩, Lx.rf, rfl, rfl, rfl, hP, hD, hS, lv_sub hl [3, 4, 5, 6, 2, 1, 0] rfl, rfl⟩
        · intro H locs k sl g hI
          clear hpp
          obtain ⟨S1, T1, V1, X1, Y1, Z1, q1, zi, t1, mt, i, ls, hC, hh, hpp, hAW, hp0, hp1, hp2, hp3, hp4, hp5, rfl, rfl, hP, hD, hS, hl, rfl⟩ := hI
          have x15 : kK S1 15 = 0 := (hAW.2.1 15 (lt35 (by decide)) (by decide)).2.trans h15
          refine lv_iload hx hb dX5_under_170 (lv_at hl 6 rfl) ?_
          refine lv_iload hx hb dX5_under_172 (lv_at hl 5 rfl) ?_
          refine lv_icmp_ge (tgt := 241) hx hb dX5_under_174 (by decide) (fun c_59 => ?_) (fun c_59 => absurd (nI_le (by omega) (by omega)) c_59)
          refine lv_iload hx hb dX5_under_241 (lv_at hl 4 rfl) ?_
          exact c_iret (v := mt) hx hb hr hK hP hD hS hC hh hpp ⟨hAW, ⟨⟨_, _, _, _, _, _, hp1⟩, UE.mk hp2 hp3 (by rw [hun, asks_2 wd_19a wd_19b, hp5, List.drop_eq_nil_of_le (show (parts z1 b9).length ≤ i by omega), unR_end])⟩⟩ dX5_under_243 hlocks
        · intro j ih9 H locs k sl g hI
          clear hpp
          obtain ⟨S1, T1, V1, X1, Y1, Z1, q1, zi, t1, mt, i, ls, hC, hh, hpp, hAW, hp0, hp1, hp2, hp3, hp4, hp5, rfl, rfl, hP, hD, hS, hl, rfl⟩ := hI
          have x15 : kK S1 15 = 0 := (hAW.2.1 15 (lt35 (by decide)) (by decide)).2.trans h15
          refine lv_iload hx hb dX5_under_170 (lv_at hl 6 rfl) ?_
          refine lv_iload hx hb dX5_under_172 (lv_at hl 5 rfl) ?_
          refine lv_icmp_ge (tgt := 241) hx hb dX5_under_174 (by decide) (fun c_60 => absurd c_60 (nI_ge (by omega) (by omega))) (fun c_60 => ?_)
          refine lv_iload hx hb dX5_under_177 (lv_at hl 4 rfl) ?_
          refine lv_if_ne (tgt := 241) hx hb dX5_under_179 (by decide) (fun c_61 => ?_) (fun c_61 => ?_)
          · skip
            refine lv_iload hx hb dX5_under_241 (lv_at hl 4 rfl) ?_
            exact c_iret (v := mt) hx hb hr hK hP hD hS hC hh hpp ⟨hAW, ⟨⟨_, _, _, _, _, _, hp1⟩, UE.mk hp2 hp3 (by rw [hun, asks_2 wd_19a wd_19b, hp5, unR_stop (hp3.ng c_61)])⟩⟩ dX5_under_243 hlocks
          · skip
            obtain ⟨hok, hokl⟩ := hp1.ok c_61
            have hzi := hp3.of0 c_61
            have hsq : stp zi = q1 := (nI_eq (by have := hp2.2.2.2.2.2.2.1; omega) (by omega)).mp ((hp3.1 hzi).2.symm.trans hok.1.2.1)
            obtain ⟨wT, wV, wB, wX⟩ := id hok.1.1.2.1
            have hi : i < (parts z1 b9).length := by omega
            obtain ⟨la1, la2, la3, la4, la5, la6, la7⟩ := lx_at hp4 a1
            obtain ⟨lb1, lb2, lb3, lb4, lb5, lb6, lb7⟩ := lx_at hp4 b1
            obtain ⟨pb1, pb2, pb3, pb4⟩ := hp2.1.lab lb1 (lb2.trans wd_19b) (i := i) (by rw [lb6]; exact hi)
            rw [lb6] at pb2 pb3
            rw [lb7] at pb1 pb4
            obtain ⟨cb1, cb2, cb3⟩ := kt1.cnt b1 wd_19b
            refine lv_aload_n hx hb dX5_under_182 rfl (lv_at hl 0 rfl) ?_
            refine va_get (D := gD G) (ci := 5) (v := .ref (ga G 2)) (C := RX5) (T := TX5) (N := 15) hx hb htu cu_in5 hown hK hP 4 cw_4 rfl 1 (by decide) (htu _ C_45) (fun _ h9 => h9) rfl dX5_under_183 ?_
            refine lv_iload_n hx hb dX5_under_186 rfl (lv_at hl 1 rfl) ?_
            refine lv_aload_n hx hb dX5_under_187 rfl (lv_at hl 0 rfl) ?_
            refine va_get (D := gD G) (ci := 5) (v := .ref (ga G 2)) (C := RX5) (T := TX5) (N := 15) hx hb htu cu_in5 hown hK hP 4 cw_4 rfl 1 (by decide) (htu _ C_45) (fun _ h9 => h9) rfl dX5_under_188 ?_
            refine lv_iload_n hx hb dX5_under_191 rfl (lv_at hl 2 rfl) ?_
            refine lv_iload hx hb dX5_under_192 (lv_at hl 6 rfl) ?_
            have hC0 := hC
            refine c_ci (c_runV (As := [.int (nI b9), .int (nI i)]) (rest := [.int (nI a9), .ref (ga G 2)]) (q0 := 2) (ci := 4) ⟨hx, hb, hml, hown, htu⟩ (x_labelAt l G S1 (nI b9) (nI i) hC  H) (cwV 2 htu hU_X5_187 rfl rfl rfl (by decide +kernel) ⟨show 1 + 1 ≤ (fu + 1) + 70 by omega, show 8 + (3 + 11) + 21 ≤ 40 * (fu + 1) + 3000 by omega⟩) hP hK hD hC hpp cw_2 rfl rfl hl.1 rfl (lv_room (Nat.le_of_ble_eq_true rfl)) dX5_under_194) hS hD hh hpp (fun r_62 S_63 H locs hw_64 hP hD hS hC hh hs_65 hpq => ?_)
            clear hpp
            have hpp := hpq
            clear hpq
            obtain ⟨-, hu9, hw_64⟩ := hw_64
            have hu9 := hu9.symm
            subst hu9
            obtain rfl : r_62 = nI ((labs z1 b9).getD i 0) := hw_64.trans pb1
            have hC0 := hC
            refine c_ci (c_runV (As := [.int (nI a9), .int (nI ((labs z1 b9).getD i 0))]) (rest := []) (q0 := 2) (ci := 4) ⟨hx, hb, hml, hown, htu⟩ (x_partBy l G S1 T1 V1 V1 X1 Y Z1 zi a9 (((labs z1 b9).getD i 0)) hC hok.1.1 hp2.1 la1 ((la2.trans wd_19a)) pb4 H) (cwV 2 htu hU_X5_190 rfl rfl rfl (by decide +kernel) ⟨show 2 + 1 ≤ (fu + 1) + 70 by omega, show 8 + (5 + 11) + 43 ≤ 40 * (fu + 1) + 3000 by omega⟩) hP hK hD hC hpp cw_2 rfl rfl hl.1 rfl (lv_room (Nat.le_of_ble_eq_true rfl)) dX5_under_197) hS hD hh hpp (fun r_66 S_67 H locs hw_68 hP hD hS hC hh hs_69 hpq => ?_)
            clear hpp
            have hpp := hpq
            clear hpq
            obtain ⟨-, hu9, hw_68⟩ := hw_68
            have hu9 := hu9.symm
            subst hu9
            rcases hpb : partBy (labs zi a9) (parts zi a9) ((labs z1 b9).getD i 0) with _ | q9
            · skip
              obtain rfl : r_66 = -9 := hw_68.trans (pby_of hpb)
              refine lv_istore (lv' := [(7, .int ((-9))), (0, .ref (ga G 4)), (1, .int (nI a9)), (2, .int (nI b9)), (3, .int (nI dp)), (4, .int mt), (5, .int (nI ((parts z1 b9).length))), (6, .int (nI i))]) hx hb dX5_under_200 hl (by decide) rfl (fun ls hl => ?_)
              refine lv_iload hx hb dX5_under_202 (lv_at hl 0 rfl) ?_
              refine lv_bipush (v := (-9)) hx hb dX5_under_204 (by decide) ?_
              refine lv_icmp_ne (tgt := 214) hx hb dX5_under_206 (by decide) (fun c_70 => absurd (by decide) c_70) (fun c_70 => ?_)
              refine lv_bipush (v := (-7)) hx hb dX5_under_209 (by decide) ?_
              refine lv_goto (tgt := 233) hx hb dX5_under_211 (by decide) ?_
              refine lv_istore (lv' := [(4, .int ((-7))), (7, .int ((-9))), (0, .ref (ga G 4)), (1, .int (nI a9)), (2, .int (nI b9)), (3, .int (nI dp)), (5, .int (nI ((parts z1 b9).length))), (6, .int (nI i))]) hx hb dX5_under_233 hl (by decide) rfl (fun ls hl => ?_)
              refine lv_iinc (v := nI (i + 1)) (lv' := [(6, .int (nI (i + 1))), (4, .int ((-7))), (7, .int ((-9))), (0, .ref (ga G 4)), (1, .int (nI a9)), (2, .int (nI b9)), (3, .int (nI dp)), (5, .int (nI ((parts z1 b9).length)))]) hx hb dX5_under_235 hl (k := 7) rfl (nI_1 i) (by decide) rfl (fun ls hl => ?_)
              refine lv_goto (tgt := 170) hx hb dX5_under_238 (by decide) ?_
              exact ih9 _ _ _ _ _ ⟨S1, T1, V1, X1, Y, Z1, q1, (stops zi 2 (askn zi)), t1, (-7), i + 1, ls, hC, hh, hpp, hAW, by omega, hok.bad (by decide), (uc_stops hp2 2 (askn zi)), (UM.sp hzi (by decide) rfl), (hp4.tr (x_stops _ _ _)), (by rw [hp5, unR_none hi cb2 hzi hpb]), rfl, rfl, hP, hD, hS, lv_sub hl [3, 4, 5, 6, 1, 7, 0] rfl, rfl⟩
            · skip
              obtain rfl : r_66 = nI q9 := hw_68.trans (pby_of hpb)
              have hq9 : q9 < nT zi := partBy_lt hpb (fun i hi => (hp2.1.lab la1 (la2.trans wd_19a) hi).2.2.1) (hp2.1.cnt la1 (la2.trans wd_19a)).2.1
              have hq96 := hp2.1.1.2.2.2.2.2.2.2.1
              refine lv_istore (lv' := [(7, .int (nI q9)), (0, .ref (ga G 4)), (1, .int (nI a9)), (2, .int (nI b9)), (3, .int (nI dp)), (4, .int mt), (5, .int (nI ((parts z1 b9).length))), (6, .int (nI i))]) hx hb dX5_under_200 hl (by decide) rfl (fun ls hl => ?_)
              refine lv_iload hx hb dX5_under_202 (lv_at hl 0 rfl) ?_
              refine lv_bipush (v := (-9)) hx hb dX5_under_204 (by decide) ?_
              refine lv_icmp_ne (tgt := 214) hx hb dX5_under_206 (by decide) (fun c_71 => ?_) (fun c_71 => absurd c_71 (nI_neg (by decide) (by omega)))
              refine lv_aload_n hx hb dX5_under_214 rfl (lv_at hl 1 rfl) ?_
              refine lv_iload hx hb dX5_under_215 (lv_at hl 0 rfl) ?_
              refine lv_aload_n hx hb dX5_under_217 rfl (lv_at hl 1 rfl) ?_
              refine va_get (D := gD G) (ci := 5) (v := .ref (ga G 2)) (C := RX5) (T := TX5) (N := 15) hx hb htu cu_in5 hown hK hP 4 cw_4 rfl 1 (by decide) (htu _ C_45) (fun _ h9 => h9) rfl dX5_under_218 ?_
              refine lv_iload_n hx hb dX5_under_221 rfl (lv_at hl 3 rfl) ?_
              refine lv_iload hx hb dX5_under_222 (lv_at hl 7 rfl) ?_
              have hC0 := hC
              refine c_ci (c_runV (As := [.int (nI b9), .int (nI i)]) (rest := [.int (nI q9), .ref (ga G 4)]) (q0 := 2) (ci := 4) ⟨hx, hb, hml, hown, htu⟩ (x_partAt l G S1 (nI b9) (nI i) hC  H) (cwV 2 htu hU_X5_193 rfl rfl rfl (by decide +kernel) ⟨show 1 + 1 ≤ (fu + 1) + 70 by omega, show 8 + (3 + 11) + 21 ≤ 40 * (fu + 1) + 3000 by omega⟩) hP hK hD hC hpp cw_2 rfl rfl hl.1 rfl (lv_room (Nat.le_of_ble_eq_true rfl)) dX5_under_224) hS hD hh hpp (fun r_72 S_73 H locs hw_74 hP hD hS hC hh hs_75 hpq => ?_)
              clear hpp
              have hpp := hpq
              clear hpq
              obtain ⟨-, hu9, hw_74⟩ := hw_74
              have hu9 := hu9.symm
              subst hu9
              obtain rfl : r_72 = nI ((parts z1 b9).getD i 0) := hw_74.trans pb2
              refine lv_iload_n hx hb dX5_under_227 rfl (lv_at hl 4 rfl) ?_
              refine lv_iconst (v := 1) hx hb dX5_under_228 (by decide) ?_
              refine lv_iadd hx hb dX5_under_229 ?_
              refine m_top (y := nI (dp + 1)) (nI_add dp 1) ?_
              have hC0 := hC
              refine c_ci (c_runV (As := [.int (nI q9), .int (nI ((parts z1 b9).getD i 0)), .int (nI (dp + 1))]) (rest := []) (q0 := 4) (ci := 5) ⟨hx, hb, hml, hown, htu⟩ (ih l G S1 T1 V1 X1 Y Z1 q1 (dp + 1) zi q9 (((parts z1 b9).getD i 0)) t1 hC hok.1 ((by omega)) x15 ((by omega)) hY2 hp2.1 hp2.2.1 hp2.2.2.1 hp2.2.2.2.1 ((by have := hp2.2.2.2.2; omega)) hzi hsq hq9 pb3 H) (cwV 3 htu hU_X5_150 rfl rfl rfl (by decide +kernel) ⟨show (fu + 70) + 1 ≤ (fu + 1) + 70 by omega, show 8 + (8 + 11) + (40 * fu + 3000) ≤ 40 * (fu + 1) + 3000 by omega⟩) hP hK hD hC hpp cw_4 rfl rfl hl.1 rfl (lv_room (Nat.le_of_ble_eq_true rfl)) dX5_under_230) hS hD hh hpp (fun r_76 S_77 H locs hw_78 hP hD hS hC hh hs_79 hpq => ?_)
              clear hpp
              have hpp := hpq
              clear hpq
              try dsimp only at hw_78
              have aw_80 : AW [6, 7, 8, 9, 16, 14, 10, 11, 12, 13, 17, 18, 25, 26, 35] [8, 9, 10, 12] S1 S_77 := hw_78.1
              have aw_80t : AW [6, 7, 8, 9, 16, 14, 10, 11, 12, 13, 17, 18, 25, 26, 35] [8, 9, 10, 12] S S_77 := hAW.tr (aw_80.mono (by decide) (by decide))
              have kk_81 : kK S_77 15 = 0 := (aw_80.2.1 15 (lt35 (by decide)) (by decide)).2.trans x15
              obtain ⟨ux_82W, ux_82E⟩ := hw_78.2
              clear hw_78
              have ux_82x := hok.tr ux_82W
              obtain ⟨ux_82T, ux_82V, ux_82X, ux_82Y, ux_82Z, ux_82q, ux_82⟩ := id ux_82x
              obtain ⟨ux_82R, ux_82e⟩ : ∃ R, un fu zi q9 (((parts z1 b9).getD i 0)) = R := ⟨_, rfl⟩
              rw [ux_82e] at ux_82E
              obtain ⟨⟨ux_82t, ux_82u0⟩, ux_82M⟩ := ux_82E
              have ux_82uc := UC.tr hp2 ux_82u0
              have ux_82L0 : Lx zi ux_82R := by rw [← ux_82e]; exact x_un fu _ _ _
              have ux_82L := Lx.tr hp4 ux_82L0
              refine lv_istore (lv' := [(4, .int r_76), (7, .int (nI q9)), (0, .ref (ga G 4)), (1, .int (nI a9)), (2, .int (nI b9)), (3, .int (nI dp)), (5, .int (nI ((parts z1 b9).length))), (6, .int (nI i))]) hx hb dX5_under_233 hl (by decide) rfl (fun ls hl => ?_)
              refine lv_iinc (v := nI (i + 1)) (lv' := [(6, .int (nI (i + 1))), (4, .int r_76), (7, .int (nI q9)), (0, .ref (ga G 4)), (1, .int (nI a9)), (2, .int (nI b9)), (3, .int (nI dp)), (5, .int (nI ((parts z1 b9).length)))]) hx hb dX5_under_235 hl (k := 7) rfl (nI_1 i) (by decide) rfl (fun ls hl => ?_)
              refine lv_goto (tgt := 170) hx hb dX5_under_238 (by decide) ?_
              exact ih9 _ _ _ _ _ ⟨S_77, ux_82T, ux_82V, ux_82X, ux_82Y, ux_82Z, ux_82q, ux_82R, ux_82t, r_76, i + 1, ls, hC, hh, hpp, aw_80t, by omega, ux_82, ux_82uc, ux_82M, ux_82L, (by rw [hp5, unR_some hi cb2 hzi hpb, ux_82e]), rfl, rfl, hP, hD, hS, lv_sub hl [3, 4, 5, 6, 1, 7, 0] rfl, rfl⟩
      · skip
        subst wd_19
        refine lv_tableIn (tgt := 244) hx hb dX5_under_52 (by decide) (by decide) (by rfl) (by decide) ?_
        refine lv_aload_n hx hb dX5_under_244 rfl (lv_at hl 1 rfl) ?_
        refine va_get (D := gD G) (ci := 5) (v := .ref (ga G 2)) (C := RX5) (T := TX5) (N := 15) hx hb htu cu_in5 hown hK hP 4 cw_4 rfl 1 (by decide) (htu _ C_45) (fun _ h9 => h9) rfl dX5_under_245 ?_
        refine lv_iload_n hx hb dX5_under_248 rfl (lv_at hl 2 rfl) ?_
        refine lv_iconst (v := 1) hx hb dX5_under_249 (by decide) ?_
        have hC0 := hC
        refine c_cr (c_runV (As := [.int (nI a9), .int 1]) (rest := []) (q0 := 2) (ci := 4) ⟨hx, hb, hml, hown, htu⟩ (y_boundsOf l G S_5 T V V X Y (Z + 1) (nI a9) 1 hC ty_12 ((Nat.le_refl _)) ((by decide)) H) (cwV 2 htu hU_X5_196 rfl rfl rfl (by decide +kernel) ⟨show 1 + 1 ≤ (fu + 1) + 70 by omega, show 8 + (5 + 11) + 21 ≤ 40 * (fu + 1) + 3000 by omega⟩) hP hK hD hC hpp cw_2 rfl rfl hl.1 rfl (lv_room (Nat.le_of_ble_eq_true rfl)) dX5_under_250) hS hD hh hpp (fun r_83 S_84 H locs hw_85 hP hD hS hC hh hs_86 hpq => ?_)
        clear hpp
        have hpp := hpq
        clear hpq
        obtain ⟨-, hu9, hw_85⟩ := hw_85
        have hu9 := hu9.symm
        subst hu9
        obtain ⟨br_87r, br_87e, br_871⟩ := hw_85
        have br_87b := ty_12.2.1.2.2.1
        have br_87l : br_87r < 35 + kB S_5 := bnd_lt br_871 br_87b (by decide)
        have br_87h : kH S_5 br_87r = r_83 := br_87e.symm
        refine lv_iload_n hx hb dX5_under_253 rfl (lv_at hl 3 rfl) ?_
        have lk_882 : br_87r = 35 + (2 * one z1 a9 + 1) := kt1.bof a1 wd_19a br_871 (by omega) (by omega)
        obtain ⟨lk_88f1, lk_88f2, lk_88f3⟩ := kt1.f3 a1 wd_19a
        have lk_88b := tb2 (2 * one z1 a9 + 1) (by omega)
        have hC0 := hC
        refine c_cv (c_runV (As := [.int (nI b9)]) (rest := []) (q0 := (2 * br_87r + 13)) (ci := 0) ⟨hx, hb, hml, hown, htu⟩ (c_addA l G S_5 br_87r br_87l hC r_83 br_87h (nI b9) (by rw [lk_882, lim_b (Nat.le_add_right 35 _)]; omega) H) (cwV 1 htu hU_X5_200 rfl rfl rfl (by decide +kernel) ⟨show 2 + 1 ≤ (fu + 1) + 70 by omega, show 8 + (2 + 11) + 82 ≤ 40 * (fu + 1) + 3000 by omega⟩) hP hK hD hC hpp (c_hd br_87h (cw_row br_87l)) rfl rfl hl.1 rfl (lv_room (Nat.le_of_ble_eq_true rfl)) dX5_under_254) hS hD hh hpp (fun S_90 H locs hw_91 hP hD hS hC hh hs_92 hpq => ?_)
        clear hpp
        have hpp := hpq
        clear hpq
        try dsimp only at hw_91
        have aw_93 : AW [35] [] S_5 S_90 := (by obtain ⟨_, _, _, h9, -, -⟩ := hw_91; rw [h9]; exact AW.u (by first | (simp; omega) | simp))
        have aw_93t : AW [6, 7, 8, 9, 16, 14, 10, 11, 12, 13, 17, 18, 25, 26, 35] [8, 9, 10, 12] S S_90 := aw_8t.tr (aw_93.mono (by decide) (by decide))
        have kk_94 : kK S_90 15 = 0 := (aw_93.2.1 15 (lt35 (by decide)) (by decide)).2.trans kk_9
        have ii_95 : S_90.1 12 = nI (q + 1) := (aw_93.1 12 (by decide)).trans ii_10
        have ii_96 : S_90.1 8 = nI tm := (aw_93.1 8 (by decide)).trans ii_11
        have ha_97r : br_87r < 35 + kB S_90 := by have := hs_92.1; have := br_87l; omega
        have ha_97 : kH S_90 br_87r = r_83 := (hs_92.2 br_87r br_87l).trans br_87h
        have ty_98 := TY.aw ty_12 aw_93 (by decide)
        obtain ⟨ad_99n, ad_99q, ad_99g, ad_99u, ad_991, ad_992⟩ := hw_91
        have us_100 := US.push ty_12 e12b (Nat.succ_le_succ hZq) tb2 rfl ad_99u lk_882 (by omega)
        have ur3 : UR S_90 T V Y q T V X Y (Z + 1) (q + 1) 0 := ⟨us_100, ur2.2⟩
        obtain ⟨zs, hzs⟩ : ∃ zs, zs = bind z1 a9 1 b9 := ⟨_, rfl⟩
        have ktb : KT S_90 zs := by
          rw [hzs]
          refine kt_bind kt1 a1 wd_19a (by decide) b1 (n := ad_99n) (q := ad_99q) (g := ad_99g) ?_ ?_ ?_
          · rw [← lk_882]; exact ad_99u
          · rw [← lk_882]; exact ad_991
          · rw [← lk_882]; exact ad_992
        have hLs : Lx z1 zs := by rw [hzs]; exact x_bind _ _ _ _ (by decide)
        have ucs : UC S S_90 Y tm z zs tm := ⟨ktb, by rw [hzs]; exact kq1.aw aw_93 (by decide) rfl rfl, km1.aw aw_93 (by decide), (aw_93.1 8 (by decide)).trans t81, Nat.le_refl _, by rw [hzs]; exact uc1.2.2.2.2.2.1, by rw [hzs]; exact uc1.2.2.2.2.2.2.1, sg_aw sg1 aw_93 (by decide)⟩
        have h0s : sto zs = 0 := by rw [hzs]; exact h01
        have sqs : stp zs = q + 1 := by rw [hzs]; exact sq1
        have ums : UM S_90 zs 0 := ⟨fun _ => ⟨rfl, ((aw_93.1 12 (by decide)).trans e12b).trans (by rw [sqs])⟩, fun h => absurd h0s h⟩
        refine lv_aload_n hx hb dX5_under_257 rfl (lv_at hl 1 rfl) ?_
        refine va_get (D := gD G) (ci := 5) (v := .ref (ga G 2)) (C := RX5) (T := TX5) (N := 15) hx hb htu cu_in5 hown hK hP 4 cw_4 rfl 1 (by decide) (htu _ C_45) (fun _ h9 => h9) rfl dX5_under_258 ?_
        refine lv_iload_n hx hb dX5_under_261 rfl (lv_at hl 2 rfl) ?_
        refine lv_iconst (v := 0) hx hb dX5_under_262 (by decide) ?_
        have hC0 := hC
        refine c_cr (c_runV (As := [.int (nI a9), .int 0]) (rest := []) (q0 := 2) (ci := 4) ⟨hx, hb, hml, hown, htu⟩ (y_boundsOf l G S_90 T V V X Y (Z + 1) (nI a9) 0 hC ty_98 ((Nat.le_refl _)) ((by decide)) H) (cwV 2 htu hU_X5_196 rfl rfl rfl (by decide +kernel) ⟨show 1 + 1 ≤ (fu + 1) + 70 by omega, show 8 + (5 + 11) + 21 ≤ 40 * (fu + 1) + 3000 by omega⟩) hP hK hD hC hpp cw_2 rfl rfl hl.1 rfl (lv_room (Nat.le_of_ble_eq_true rfl)) dX5_under_263) hS hD hh hpp (fun r_101 S_102 H locs hw_103 hP hD hS hC hh hs_104 hpq => ?_)
        clear hpp
        have hpp := hpq
        clear hpq
        obtain ⟨-, hu9, hw_103⟩ := hw_103
        have hu9 := hu9.symm
        subst hu9
        obtain ⟨br_105r, br_105e, br_1051⟩ := hw_103
        have br_105b := ty_98.2.1.2.2.1
        have br_105l : br_105r < 35 + kB S_90 := bnd_lt br_1051 br_105b (by decide)
        have br_105h : kH S_90 br_105r = r_101 := br_105e.symm
        refine lv_astore (lv' := [(5, .ref r_101), (4, .int 0), (0, .ref (ga G 4)), (1, .int (nI a9)), (2, .int (nI b9)), (3, .int (nI dp))]) hx hb dX5_under_266 hl (by decide) rfl (fun ls hl => ?_)
        refine lv_aload hx hb dX5_under_268 (lv_at hl 0 rfl) ?_
        refine va_get (D := gD G) (ci := 0) (v := .int (nI (kK S_90 br_105r))) (C := RX0) (T := TX0) (N := 2) hx hb htu cu_in0 hown hK hP (2 * br_105r + 13) (c_hd br_105h (cw_row br_105l)) rfl 1 (by decide) (htu _ C_313) (fun _ h9 => h9) rfl dX5_under_270 ?_
        refine lv_istore (lv' := [(6, .int (nI (kK S_90 br_105r))), (5, .ref r_101), (4, .int 0), (0, .ref (ga G 4)), (1, .int (nI a9)), (2, .int (nI b9)), (3, .int (nI dp))]) hx hb dX5_under_273 hl (by decide) rfl (fun ls hl => ?_)
        refine lv_iconst (v := 0) hx hb dX5_under_275 (by decide) ?_
        refine lv_istore (lv' := [(7, .int 0), (6, .int (nI (kK S_90 br_105r))), (5, .ref r_101), (4, .int 0), (0, .ref (ga G 4)), (1, .int (nI a9)), (2, .int (nI b9)), (3, .int (nI dp))]) hx hb dX5_under_276 hl (by decide) rfl (fun ls hl => ?_)
        obtain ⟨lz1, lz2, lz3, lz4, lz5, lz6, lz7⟩ := lx_at hLs a1
        have brq : br_105r = 35 + (2 * one z1 a9 + 0) := (ktb.bof lz1 (lz2.trans wd_19a) br_1051 (by omega) (by omega)).trans (by rw [lz4])
        clear br_1051
        have hrw : row zs 0 a9 = row z1 0 a9 := by rw [hzs, bind_row, if_neg (by decide)]
        obtain ⟨ah, eah⟩ : ∃ x, x = kK S_90 br_105r := ⟨_, rfl⟩
        have hah : ah < 5000 := by rw [eah]; exact kK_lt hC br_105l
        have ahl : ah = (row z1 0 a9).length := eah.trans (by rw [brq, ← lz4, ← hrw]; exact (ktb.bn lz1 (lz2.trans wd_19a) (by decide)).1)
        rw [← eah] at hl
        refine w_loop (fun j H locs k sl g => ∃ (S1 : cS) (T1 : Nat) (V1 : Nat) (X1 : Nat) (Y1 : Nat) (Z1 : Nat) (q1 : Nat) (zi : aS) (t1 : Nat) (mt : Int32) (i : Nat) (ls : Array Slot), CL S1 ∧ HS S S1 ∧ PT S ≤ PT S1 ∧ AW [6, 7, 8, 9, 16, 14, 10, 11, 12, 13, 17, 18, 25, 26, 35] [8, 9, 10, 12] S S1 ∧ i + j = ah ∧ UR S1 T V Y q T1 V1 X1 Y1 Z1 q1 mt ∧ UC S S1 Y tm z zi t1 ∧ UM S1 zi mt ∧ Lx z1 zi ∧ (row z1 0 a9).foldl (fun s x => un fu s x b9) zs = ((row z1 0 a9).drop i).foldl (fun s x => un fu s x b9) zi ∧ kH S1 br_105r = r_101 ∧ br_105r < 35 + kB S1 ∧ k = PT S1 - PT S ∧ sl = 12 * (PT S1 - PT S) ∧ cP G S1 H ∧ cD (cA G S s.heap.size) G S1 ∧ va_S (cA G S s.heap.size) s.heap H locs ∧ lv_has ls 8 [(0, .ref (ga G 4)), (1, .int (nI a9)), (2, .int (nI b9)), (3, .int (nI dp)), (4, .int mt), (5, .ref r_101), (6, .int (nI ah)), (7, .int (nI i))] ∧ g = F0 m 278 ls []) ?_ ?_ ah _ _ _ _ _ ⟨S_90, T, V, X, Y, (Z + 1), (q + 1), zs, tm, 0, 0, ls, hC, hh, hpp, aw_93t, by omega, ur3, ucs, ums, hLs, rfl, br_105h, br_105l, rfl, rfl, hP, hD, hS, lv_sub hl [4, 5, 6, 7, 3, 2, 1, 0] rfl, rfl⟩
        · intro H locs k sl g hI
          clear hpp
          obtain ⟨S1, T1, V1, X1, Y1, Z1, q1, zi, t1, mt, i, ls, hC, hh, hpp, hAW, hp0, hp1, hp2, hp3, hp4, hp5, hp6, hp7, rfl, rfl, hP, hD, hS, hl, rfl⟩ := hI
          have x15 : kK S1 15 = 0 := (hAW.2.1 15 (lt35 (by decide)) (by decide)).2.trans h15
          refine lv_iload hx hb dX5_under_278 (lv_at hl 7 rfl) ?_
          refine lv_iload hx hb dX5_under_280 (lv_at hl 6 rfl) ?_
          refine lv_icmp_ge (tgt := 313) hx hb dX5_under_282 (by decide) (fun c_106 => ?_) (fun c_106 => absurd (nI_le (by omega) (by omega)) c_106)
          refine lv_iload hx hb dX5_under_313 (lv_at hl 4 rfl) ?_
          exact c_iret (v := mt) hx hb hr hK hP hD hS hC hh hpp ⟨hAW, ⟨⟨_, _, _, _, _, _, hp1⟩, UE.mk hp2 hp3 (by rw [hun, asks_3 wd_19a wd_19b, ← hzs, hp5, List.drop_eq_nil_of_le (by omega)]; rfl)⟩⟩ dX5_under_315 hlocks
        · intro j ih9 H locs k sl g hI
          clear hpp
          obtain ⟨S1, T1, V1, X1, Y1, Z1, q1, zi, t1, mt, i, ls, hC, hh, hpp, hAW, hp0, hp1, hp2, hp3, hp4, hp5, hp6, hp7, rfl, rfl, hP, hD, hS, hl, rfl⟩ := hI
          have x15 : kK S1 15 = 0 := (hAW.2.1 15 (lt35 (by decide)) (by decide)).2.trans h15
          refine lv_iload hx hb dX5_under_278 (lv_at hl 7 rfl) ?_
          refine lv_iload hx hb dX5_under_280 (lv_at hl 6 rfl) ?_
          refine lv_icmp_ge (tgt := 313) hx hb dX5_under_282 (by decide) (fun c_107 => absurd c_107 (nI_ge (by omega) (by omega))) (fun c_107 => ?_)
          refine lv_iload hx hb dX5_under_285 (lv_at hl 4 rfl) ?_
          refine lv_if_ne (tgt := 313) hx hb dX5_under_287 (by decide) (fun c_108 => ?_) (fun c_108 => ?_)
          · skip
            refine lv_iload hx hb dX5_under_313 (lv_at hl 4 rfl) ?_
            exact c_iret (v := mt) hx hb hr hK hP hD hS hC hh hpp ⟨hAW, ⟨⟨_, _, _, _, _, _, hp1⟩, UE.mk hp2 hp3 (by rw [hun, asks_3 wd_19a wd_19b, ← hzs, hp5, fold_stop (fun s x h => un_st h) (hp3.ng c_108)])⟩⟩ dX5_under_315 hlocks
          · skip
            obtain ⟨hok, hokl⟩ := hp1.ok c_108
            have hzi := hp3.of0 c_108
            have hsq : stp zi = q1 := (nI_eq (by have := hp2.2.2.2.2.2.2.1; omega) (by omega)).mp ((hp3.1 hzi).2.symm.trans hok.1.2.1)
            obtain ⟨wT, wV, wB, wX⟩ := id hok.1.1.2.1
            have hi : i < (row z1 0 a9).length := by omega
            refine lv_aload_n hx hb dX5_under_290 rfl (lv_at hl 0 rfl) ?_
            refine lv_aload hx hb dX5_under_291 (lv_at hl 5 rfl) ?_
            refine lv_iload hx hb dX5_under_293 (lv_at hl 7 rfl) ?_
            have hC0 := hC
            refine c_ci (c_runV (As := [.int (nI i)]) (rest := [.ref (ga G 4)]) (q0 := (2 * br_105r + 13)) (ci := 0) ⟨hx, hb, hml, hown, htu⟩ (c_getA l G S1 br_105r hp7 hC r_101 hp6 (nI i) H) (cwV 1 htu hU_X5_124 rfl rfl rfl (by decide +kernel) ⟨show 0 + 1 ≤ (fu + 1) + 70 by omega, show 8 + (2 + 11) + 0 ≤ 40 * (fu + 1) + 3000 by omega⟩) hP hK hD hC hpp (c_hd hp6 (cw_row hp7)) rfl rfl hl.1 rfl (lv_room (Nat.le_of_ble_eq_true rfl)) dX5_under_295) hS hD hh hpp (fun r_109 S_110 H locs hw_111 hP hD hS hC hh hs_112 hpq => ?_)
            clear hpp
            have hpp := hpq
            clear hpq
            obtain ⟨hu9, hw_111⟩ := hw_111
            have hu9 := hu9.symm
            subst hu9
            obtain ⟨pl1, pl2⟩ := hp2.1.pl hp4 a1 wd_19a (by decide) hi (by rw [← brq]; have := kK_lt hC hp7; omega)
            rw [← brq] at pl1
            obtain rfl : r_109 = nI ((row z1 0 a9).getD i 0) := hw_111.trans pl1
            refine lv_iload_n hx hb dX5_under_298 rfl (lv_at hl 2 rfl) ?_
            refine lv_iload_n hx hb dX5_under_299 rfl (lv_at hl 3 rfl) ?_
            refine lv_iconst (v := 1) hx hb dX5_under_300 (by decide) ?_
            refine lv_iadd hx hb dX5_under_301 ?_
            refine m_top (y := nI (dp + 1)) (nI_add dp 1) ?_
            have hC0 := hC
            refine c_ci (c_runV (As := [.int (nI ((row z1 0 a9).getD i 0)), .int (nI b9), .int (nI (dp + 1))]) (rest := []) (q0 := 4) (ci := 5) ⟨hx, hb, hml, hown, htu⟩ (ih l G S1 T1 V1 X1 Y Z1 q1 (dp + 1) zi (((row z1 0 a9).getD i 0)) b9 t1 hC hok.1 ((by omega)) x15 ((by omega)) hY2 hp2.1 hp2.2.1 hp2.2.2.1 hp2.2.2.2.1 ((by have := hp2.2.2.2.2; omega)) hzi hsq pl2 ((Nat.lt_of_lt_of_le b1 hp4.1)) H) (cwV 3 htu hU_X5_150 rfl rfl rfl (by decide +kernel) ⟨show (fu + 70) + 1 ≤ (fu + 1) + 70 by omega, show 8 + (8 + 11) + (40 * fu + 3000) ≤ 40 * (fu + 1) + 3000 by omega⟩) hP hK hD hC hpp cw_4 rfl rfl hl.1 rfl (lv_room (Nat.le_of_ble_eq_true rfl)) dX5_under_302) hS hD hh hpp (fun r_113 S_114 H locs hw_115 hP hD hS hC hh hs_116 hpq => ?_)
            clear hpp
            have hpp := hpq
            clear hpq
            try dsimp only at hw_115
            have aw_117 : AW [6, 7, 8, 9, 16, 14, 10, 11, 12, 13, 17, 18, 25, 26, 35] [8, 9, 10, 12] S1 S_114 := hw_115.1
            have aw_117t : AW [6, 7, 8, 9, 16, 14, 10, 11, 12, 13, 17, 18, 25, 26, 35] [8, 9, 10, 12] S S_114 := hAW.tr (aw_117.mono (by decide) (by decide))
            have kk_118 : kK S_114 15 = 0 := (aw_117.2.1 15 (lt35 (by decide)) (by decide)).2.trans x15
            have ha_119r : br_105r < 35 + kB S_114 := by have := hs_116.1; have := hp7; omega
            have ha_119 : kH S_114 br_105r = r_101 := (hs_116.2 br_105r hp7).trans hp6
            obtain ⟨ux_120W, ux_120E⟩ := hw_115.2
            clear hw_115
            have ux_120x := hok.tr ux_120W
            obtain ⟨ux_120T, ux_120V, ux_120X, ux_120Y, ux_120Z, ux_120q, ux_120⟩ := id ux_120x
            obtain ⟨ux_120R, ux_120e⟩ : ∃ R, un fu zi (((row z1 0 a9).getD i 0)) b9 = R := ⟨_, rfl⟩
            rw [ux_120e] at ux_120E
            obtain ⟨⟨ux_120t, ux_120u0⟩, ux_120M⟩ := ux_120E
            have ux_120uc := UC.tr hp2 ux_120u0
            have ux_120L0 : Lx zi ux_120R := by rw [← ux_120e]; exact x_un fu _ _ _
            have ux_120L := Lx.tr hp4 ux_120L0
            refine lv_istore (lv' := [(4, .int r_113), (0, .ref (ga G 4)), (1, .int (nI a9)), (2, .int (nI b9)), (3, .int (nI dp)), (5, .ref r_101), (6, .int (nI ah)), (7, .int (nI i))]) hx hb dX5_under_305 hl (by decide) rfl (fun ls hl => ?_)
            refine lv_iinc (v := nI (i + 1)) (lv' := [(7, .int (nI (i + 1))), (4, .int r_113), (0, .ref (ga G 4)), (1, .int (nI a9)), (2, .int (nI b9)), (3, .int (nI dp)), (5, .ref r_101), (6, .int (nI ah))]) hx hb dX5_under_307 hl (k := 7) rfl (nI_1 i) (by decide) rfl (fun ls hl => ?_)
            refine lv_goto (tgt := 278) hx hb dX5_under_310 (by decide) ?_
            exact ih9 _ _ _ _ _ ⟨S_114, ux_120T, ux_120V, ux_120X, ux_120Y, ux_120Z, ux_120q, ux_120R, ux_120t, r_113, i + 1, ls, hC, hh, hpp, aw_117t, by omega, ux_120, ux_120uc, ux_120M, ux_120L, (by rw [hp5, fold_step hi]; exact congrArg (List.foldl (fun s x => un fu s x b9) · ((row z1 0 a9).drop (i + 1))) ux_120e), ha_119, ha_119r, rfl, rfl, hP, hD, hS, lv_sub hl [2, 3, 4, 5, 1, 6, 7, 0] rfl, rfl⟩
      · skip
        subst wd_19
        refine lv_tableIn (tgt := 316) hx hb dX5_under_52 (by decide) (by decide) (by rfl) (by decide) ?_
        refine lv_aload_n hx hb dX5_under_316 rfl (lv_at hl 1 rfl) ?_
        refine va_get (D := gD G) (ci := 5) (v := .ref (ga G 2)) (C := RX5) (T := TX5) (N := 15) hx hb htu cu_in5 hown hK hP 4 cw_4 rfl 1 (by decide) (htu _ C_45) (fun _ h9 => h9) rfl dX5_under_317 ?_
        refine lv_iload_n hx hb dX5_under_320 rfl (lv_at hl 3 rfl) ?_
        refine lv_iconst (v := 0) hx hb dX5_under_321 (by decide) ?_
        have hC0 := hC
        refine c_cr (c_runV (As := [.int (nI b9), .int 0]) (rest := []) (q0 := 2) (ci := 4) ⟨hx, hb, hml, hown, htu⟩ (y_boundsOf l G S_5 T V V X Y (Z + 1) (nI b9) 0 hC ty_12 ((Nat.le_refl _)) ((by decide)) H) (cwV 2 htu hU_X5_196 rfl rfl rfl (by decide +kernel) ⟨show 1 + 1 ≤ (fu + 1) + 70 by omega, show 8 + (5 + 11) + 21 ≤ 40 * (fu + 1) + 3000 by omega⟩) hP hK hD hC hpp cw_2 rfl rfl hl.1 rfl (lv_room (Nat.le_of_ble_eq_true rfl)) dX5_under_322) hS hD hh hpp (fun r_121 S_122 H locs hw_123 hP hD hS hC hh hs_124 hpq => ?_)
        clear hpp
        have hpp := hpq
        clear hpq
        obtain ⟨-, hu9, hw_123⟩ := hw_123
        have hu9 := hu9.symm
        subst hu9
        obtain ⟨br_125r, br_125e, br_1251⟩ := hw_123
        have br_125b := ty_12.2.1.2.2.1
        have br_125l : br_125r < 35 + kB S_5 := bnd_lt br_1251 br_125b (by decide)
        have br_125h : kH S_5 br_125r = r_121 := br_125e.symm
        refine lv_iload_n hx hb dX5_under_325 rfl (lv_at hl 2 rfl) ?_
        have lk_1262 : br_125r = 35 + (2 * one z1 b9 + 0) := kt1.bof b1 wd_19a br_1251 (by omega) (by omega)
        obtain ⟨lk_126f1, lk_126f2, lk_126f3⟩ := kt1.f3 b1 wd_19a
        have lk_126b := tb2 (2 * one z1 b9 + 0) (by omega)
        have hC0 := hC
        refine c_cv (c_runV (As := [.int (nI a9)]) (rest := []) (q0 := (2 * br_125r + 13)) (ci := 0) ⟨hx, hb, hml, hown, htu⟩ (c_addA l G S_5 br_125r br_125l hC r_121 br_125h (nI a9) (by rw [lk_1262, lim_b (Nat.le_add_right 35 _)]; omega) H) (cwV 1 htu hU_X5_200 rfl rfl rfl (by decide +kernel) ⟨show 2 + 1 ≤ (fu + 1) + 70 by omega, show 8 + (2 + 11) + 82 ≤ 40 * (fu + 1) + 3000 by omega⟩) hP hK hD hC hpp (c_hd br_125h (cw_row br_125l)) rfl rfl hl.1 rfl (lv_room (Nat.le_of_ble_eq_true rfl)) dX5_under_326) hS hD hh hpp (fun S_128 H locs hw_129 hP hD hS hC hh hs_130 hpq => ?_)
        clear hpp
        have hpp := hpq
        clear hpq
        try dsimp only at hw_129
        have aw_131 : AW [35] [] S_5 S_128 := (by obtain ⟨_, _, _, h9, -, -⟩ := hw_129; rw [h9]; exact AW.u (by first | (simp; omega) | simp))
        have aw_131t : AW [6, 7, 8, 9, 16, 14, 10, 11, 12, 13, 17, 18, 25, 26, 35] [8, 9, 10, 12] S S_128 := aw_8t.tr (aw_131.mono (by decide) (by decide))
        have kk_132 : kK S_128 15 = 0 := (aw_131.2.1 15 (lt35 (by decide)) (by decide)).2.trans kk_9
        have ii_133 : S_128.1 12 = nI (q + 1) := (aw_131.1 12 (by decide)).trans ii_10
        have ii_134 : S_128.1 8 = nI tm := (aw_131.1 8 (by decide)).trans ii_11
        have ha_135r : br_125r < 35 + kB S_128 := by have := hs_130.1; have := br_125l; omega
        have ha_135 : kH S_128 br_125r = r_121 := (hs_130.2 br_125r br_125l).trans br_125h
        have ty_136 := TY.aw ty_12 aw_131 (by decide)
        obtain ⟨ad_137n, ad_137q, ad_137g, ad_137u, ad_1371, ad_1372⟩ := hw_129
        have us_138 := US.push ty_12 e12b (Nat.succ_le_succ hZq) tb2 rfl ad_137u lk_1262 (by omega)
        have ur3 : UR S_128 T V Y q T V X Y (Z + 1) (q + 1) 0 := ⟨us_138, ur2.2⟩
        obtain ⟨zs, hzs⟩ : ∃ zs, zs = bind z1 b9 0 a9 := ⟨_, rfl⟩
        have ktb : KT S_128 zs := by
          rw [hzs]
          refine kt_bind kt1 b1 wd_19a (by decide) a1 (n := ad_137n) (q := ad_137q) (g := ad_137g) ?_ ?_ ?_
          · rw [← lk_1262]; exact ad_137u
          · rw [← lk_1262]; exact ad_1371
          · rw [← lk_1262]; exact ad_1372
        have hLs : Lx z1 zs := by rw [hzs]; exact x_bind _ _ _ _ (by decide)
        have ucs : UC S S_128 Y tm z zs tm := ⟨ktb, by rw [hzs]; exact kq1.aw aw_131 (by decide) rfl rfl, km1.aw aw_131 (by decide), (aw_131.1 8 (by decide)).trans t81, Nat.le_refl _, by rw [hzs]; exact uc1.2.2.2.2.2.1, by rw [hzs]; exact uc1.2.2.2.2.2.2.1, sg_aw sg1 aw_131 (by decide)⟩
        have h0s : sto zs = 0 := by rw [hzs]; exact h01
        have sqs : stp zs = q + 1 := by rw [hzs]; exact sq1
        have ums : UM S_128 zs 0 := ⟨fun _ => ⟨rfl, ((aw_131.1 12 (by decide)).trans e12b).trans (by rw [sqs])⟩, fun h => absurd h0s h⟩
        refine lv_aload_n hx hb dX5_under_329 rfl (lv_at hl 1 rfl) ?_
        refine va_get (D := gD G) (ci := 5) (v := .ref (ga G 2)) (C := RX5) (T := TX5) (N := 15) hx hb htu cu_in5 hown hK hP 4 cw_4 rfl 1 (by decide) (htu _ C_45) (fun _ h9 => h9) rfl dX5_under_330 ?_
        refine lv_iload_n hx hb dX5_under_333 rfl (lv_at hl 3 rfl) ?_
        refine lv_iconst (v := 1) hx hb dX5_under_334 (by decide) ?_
        have hC0 := hC
        refine c_cr (c_runV (As := [.int (nI b9), .int 1]) (rest := []) (q0 := 2) (ci := 4) ⟨hx, hb, hml, hown, htu⟩ (y_boundsOf l G S_128 T V V X Y (Z + 1) (nI b9) 1 hC ty_136 ((Nat.le_refl _)) ((by decide)) H) (cwV 2 htu hU_X5_196 rfl rfl rfl (by decide +kernel) ⟨show 1 + 1 ≤ (fu + 1) + 70 by omega, show 8 + (5 + 11) + 21 ≤ 40 * (fu + 1) + 3000 by omega⟩) hP hK hD hC hpp cw_2 rfl rfl hl.1 rfl (lv_room (Nat.le_of_ble_eq_true rfl)) dX5_under_335) hS hD hh hpp (fun r_139 S_140 H locs hw_141 hP hD hS hC hh hs_142 hpq => ?_)
        clear hpp
        have hpp := hpq
        clear hpq
        obtain ⟨-, hu9, hw_141⟩ := hw_141
        have hu9 := hu9.symm
        subst hu9
        obtain ⟨br_143r, br_143e, br_1431⟩ := hw_141
        have br_143b := ty_136.2.1.2.2.1
        have br_143l : br_143r < 35 + kB S_128 := bnd_lt br_1431 br_143b (by decide)
        have br_143h : kH S_128 br_143r = r_139 := br_143e.symm
        refine lv_astore (lv' := [(5, .ref r_139), (4, .int 0), (0, .ref (ga G 4)), (1, .int (nI a9)), (2, .int (nI b9)), (3, .int (nI dp))]) hx hb dX5_under_338 hl (by decide) rfl (fun ls hl => ?_)
        refine lv_aload hx hb dX5_under_340 (lv_at hl 0 rfl) ?_
        refine va_get (D := gD G) (ci := 0) (v := .int (nI (kK S_128 br_143r))) (C := RX0) (T := TX0) (N := 2) hx hb htu cu_in0 hown hK hP (2 * br_143r + 13) (c_hd br_143h (cw_row br_143l)) rfl 1 (by decide) (htu _ C_313) (fun _ h9 => h9) rfl dX5_under_342 ?_
        refine lv_istore (lv' := [(6, .int (nI (kK S_128 br_143r))), (5, .ref r_139), (4, .int 0), (0, .ref (ga G 4)), (1, .int (nI a9)), (2, .int (nI b9)), (3, .int (nI dp))]) hx hb dX5_under_345 hl (by decide) rfl (fun ls hl => ?_)
        refine lv_iconst (v := 0) hx hb dX5_under_347 (by decide) ?_
        refine lv_istore (lv' := [(7, .int 0), (6, .int (nI (kK S_128 br_143r))), (5, .ref r_139), (4, .int 0), (0, .ref (ga G 4)), (1, .int (nI a9)), (2, .int (nI b9)), (3, .int (nI dp))]) hx hb dX5_under_348 hl (by decide) rfl (fun ls hl => ?_)
        obtain ⟨lz1, lz2, lz3, lz4, lz5, lz6, lz7⟩ := lx_at hLs b1
        have brq : br_143r = 35 + (2 * one z1 b9 + 1) := (ktb.bof lz1 (lz2.trans wd_19a) br_1431 (by omega) (by omega)).trans (by rw [lz4])
        clear br_1431
        have hrw : row zs 1 b9 = row z1 1 b9 := by rw [hzs, bind_row, if_neg (by decide)]
        obtain ⟨ah, eah⟩ : ∃ x, x = kK S_128 br_143r := ⟨_, rfl⟩
        have hah : ah < 5000 := by rw [eah]; exact kK_lt hC br_143l
        have ahl : ah = (row z1 1 b9).length := eah.trans (by rw [brq, ← lz4, ← hrw]; exact (ktb.bn lz1 (lz2.trans wd_19a) (by decide)).1)
        rw [← eah] at hl
        refine w_loop (fun j H locs k sl g => ∃ (S1 : cS) (T1 : Nat) (V1 : Nat) (X1 : Nat) (Y1 : Nat) (Z1 : Nat) (q1 : Nat) (zi : aS) (t1 : Nat) (mt : Int32) (i : Nat) (ls : Array Slot), CL S1 ∧ HS S S1 ∧ PT S ≤ PT S1 ∧ AW [6, 7, 8, 9, 16, 14, 10, 11, 12, 13, 17, 18, 25, 26, 35] [8, 9, 10, 12] S S1 ∧ i + j = ah ∧ UR S1 T V Y q T1 V1 X1 Y1 Z1 q1 mt ∧ UC S S1 Y tm z zi t1 ∧ UM S1 zi mt ∧ Lx z1 zi ∧ (row z1 1 b9).foldl (fun s x => un fu s a9 x) zs = ((row z1 1 b9).drop i).foldl (fun s x => un fu s a9 x) zi ∧ kH S1 br_143r = r_139 ∧ br_143r < 35 + kB S1 ∧ k = PT S1 - PT S ∧ sl = 12 * (PT S1 - PT S) ∧ cP G S1 H ∧ cD (cA G S s.heap.size) G S1 ∧ va_S (cA G S s.heap.size) s.heap H locs ∧ lv_has ls 8 [(0, .ref (ga G 4)), (1, .int (nI a9)), (2, .int (nI b9)), (3, .int (nI dp)), (4, .int mt), (5, .ref r_139), (6, .int (nI ah)), (7, .int (nI i))] ∧ g = F0 m 350 ls []) ?_ ?_ ah _ _ _ _ _ ⟨S_128, T, V, X, Y, (Z + 1), (q + 1), zs, tm, 0, 0, ls, hC, hh, hpp, aw_131t, by omega, ur3, ucs, ums, hLs, rfl, br_143h, br_143l, rfl, rfl, hP, hD, hS, lv_sub hl [4, 5, 6, 7, 3, 2, 1, 0] rfl, rfl⟩
        · intro H locs k sl g hI
          clear hpp
          obtain ⟨S1, T1, V1, X1, Y1, Z1, q1, zi, t1, mt, i, ls, hC, hh, hpp, hAW, hp0, hp1, hp2, hp3, hp4, hp5, hp6, hp7, rfl, rfl, hP, hD, hS, hl, rfl⟩ := hI
          have x15 : kK S1 15 = 0 := (hAW.2.1 15 (lt35 (by decide)) (by decide)).2.trans h15
          refine lv_iload hx hb dX5_under_350 (lv_at hl 7 rfl) ?_
          refine lv_iload hx hb dX5_under_352 (lv_at hl 6 rfl) ?_
          refine lv_icmp_ge (tgt := 385) hx hb dX5_under_354 (by decide) (fun c_144 => ?_) (fun c_144 => absurd (nI_le (by omega) (by omega)) c_144)
          refine lv_iload hx hb dX5_under_385 (lv_at hl 4 rfl) ?_
          exact c_iret (v := mt) hx hb hr hK hP hD hS hC hh hpp ⟨hAW, ⟨⟨_, _, _, _, _, _, hp1⟩, UE.mk hp2 hp3 (by rw [hun, asks_4 wd_19a wd_19b wd_19c, ← hzs, hp5, List.drop_eq_nil_of_le (by omega)]; rfl)⟩⟩ dX5_under_387 hlocks
        · intro j ih9 H locs k sl g hI
          clear hpp
          obtain ⟨S1, T1, V1, X1, Y1, Z1, q1, zi, t1, mt, i, ls, hC, hh, hpp, hAW, hp0, hp1, hp2, hp3, hp4, hp5, hp6, hp7, rfl, rfl, hP, hD, hS, hl, rfl⟩ := hI
          have x15 : kK S1 15 = 0 := (hAW.2.1 15 (lt35 (by decide)) (by decide)).2.trans h15
          refine lv_iload hx hb dX5_under_350 (lv_at hl 7 rfl) ?_
          refine lv_iload hx hb dX5_under_352 (lv_at hl 6 rfl) ?_
          refine lv_icmp_ge (tgt := 385) hx hb dX5_under_354 (by decide) (fun c_145 => absurd c_145 (nI_ge (by omega) (by omega))) (fun c_145 => ?_)
          refine lv_iload hx hb dX5_under_357 (lv_at hl 4 rfl) ?_
          refine lv_if_ne (tgt := 385) hx hb dX5_under_359 (by decide) (fun c_146 => ?_) (fun c_146 => ?_)
          · skip
            refine lv_iload hx hb dX5_under_385 (lv_at hl 4 rfl) ?_
            exact c_iret (v := mt) hx hb hr hK hP hD hS hC hh hpp ⟨hAW, ⟨⟨_, _, _, _, _, _, hp1⟩, UE.mk hp2 hp3 (by rw [hun, asks_4 wd_19a wd_19b wd_19c, ← hzs, hp5, fold_stop (fun s x h => un_st h) (hp3.ng c_146)])⟩⟩ dX5_under_387 hlocks
          · skip
            obtain ⟨hok, hokl⟩ := hp1.ok c_146
            have hzi := hp3.of0 c_146
            have hsq : stp zi = q1 := (nI_eq (by have := hp2.2.2.2.2.2.2.1; omega) (by omega)).mp ((hp3.1 hzi).2.symm.trans hok.1.2.1)
            obtain ⟨wT, wV, wB, wX⟩ := id hok.1.1.2.1
            have hi : i < (row z1 1 b9).length := by omega
            refine lv_aload_n hx hb dX5_under_362 rfl (lv_at hl 0 rfl) ?_
            refine lv_iload_n hx hb dX5_under_363 rfl (lv_at hl 1 rfl) ?_
            refine lv_aload hx hb dX5_under_364 (lv_at hl 5 rfl) ?_
            refine lv_iload hx hb dX5_under_366 (lv_at hl 7 rfl) ?_
            have hC0 := hC
            refine c_ci (c_runV (As := [.int (nI i)]) (rest := [.int (nI a9), .ref (ga G 4)]) (q0 := (2 * br_143r + 13)) (ci := 0) ⟨hx, hb, hml, hown, htu⟩ (c_getA l G S1 br_143r hp7 hC r_139 hp6 (nI i) H) (cwV 1 htu hU_X5_124 rfl rfl rfl (by decide +kernel) ⟨show 0 + 1 ≤ (fu + 1) + 70 by omega, show 8 + (2 + 11) + 0 ≤ 40 * (fu + 1) + 3000 by omega⟩) hP hK hD hC hpp (c_hd hp6 (cw_row hp7)) rfl rfl hl.1 rfl (lv_room (Nat.le_of_ble_eq_true rfl)) dX5_under_368) hS hD hh hpp (fun r_147 S_148 H locs hw_149 hP hD hS hC hh hs_150 hpq => ?_)
            clear hpp
            have hpp := hpq
            clear hpq
            obtain ⟨hu9, hw_149⟩ := hw_149
            have hu9 := hu9.symm
            subst hu9
            obtain ⟨pl1, pl2⟩ := hp2.1.pl hp4 b1 wd_19a (by decide) hi (by rw [← brq]; have := kK_lt hC hp7; omega)
            rw [← brq] at pl1
            obtain rfl : r_147 = nI ((row z1 1 b9).getD i 0) := hw_149.trans pl1
            refine lv_iload_n hx hb dX5_under_371 rfl (lv_at hl 3 rfl) ?_
            refine lv_iconst (v := 1) hx hb dX5_under_372 (by decide) ?_
            refine lv_iadd hx hb dX5_under_373 ?_
            refine m_top (y := nI (dp + 1)) (nI_add dp 1) ?_
            have hC0 := hC
            refine c_ci (c_runV (As := [.int (nI a9), .int (nI ((row z1 1 b9).getD i 0)), .int (nI (dp + 1))]) (rest := []) (q0 := 4) (ci := 5) ⟨hx, hb, hml, hown, htu⟩ (ih l G S1 T1 V1 X1 Y Z1 q1 (dp + 1) zi a9 (((row z1 1 b9).getD i 0)) t1 hC hok.1 ((by omega)) x15 ((by omega)) hY2 hp2.1 hp2.2.1 hp2.2.2.1 hp2.2.2.2.1 ((by have := hp2.2.2.2.2; omega)) hzi hsq ((Nat.lt_of_lt_of_le a1 hp4.1)) pl2 H) (cwV 3 htu hU_X5_150 rfl rfl rfl (by decide +kernel) ⟨show (fu + 70) + 1 ≤ (fu + 1) + 70 by omega, show 8 + (8 + 11) + (40 * fu + 3000) ≤ 40 * (fu + 1) + 3000 by omega⟩) hP hK hD hC hpp cw_4 rfl rfl hl.1 rfl (lv_room (Nat.le_of_ble_eq_true rfl)) dX5_under_374) hS hD hh hpp (fun r_151 S_152 H locs hw_153 hP hD hS hC hh hs_154 hpq => ?_)
            clear hpp
            have hpp := hpq
            clear hpq
            try dsimp only at hw_153
            have aw_155 : AW [6, 7, 8, 9, 16, 14, 10, 11, 12, 13, 17, 18, 25, 26, 35] [8, 9, 10, 12] S1 S_152 := hw_153.1
            have aw_155t : AW [6, 7, 8, 9, 16, 14, 10, 11, 12, 13, 17, 18, 25, 26, 35] [8, 9, 10, 12] S S_152 := hAW.tr (aw_155.mono (by decide) (by decide))
            have kk_156 : kK S_152 15 = 0 := (aw_155.2.1 15 (lt35 (by decide)) (by decide)).2.trans x15
            have ha_157r : br_143r < 35 + kB S_152 := by have := hs_154.1; have := hp7; omega
            have ha_157 : kH S_152 br_143r = r_139 := (hs_154.2 br_143r hp7).trans hp6
            obtain ⟨ux_158W, ux_158E⟩ := hw_153.2
            clear hw_153
            have ux_158x := hok.tr ux_158W
            obtain ⟨ux_158T, ux_158V, ux_158X, ux_158Y, ux_158Z, ux_158q, ux_158⟩ := id ux_158x
            obtain ⟨ux_158R, ux_158e⟩ : ∃ R, un fu zi a9 (((row z1 1 b9).getD i 0)) = R := ⟨_, rfl⟩
            rw [ux_158e] at ux_158E
            obtain ⟨⟨ux_158t, ux_158u0⟩, ux_158M⟩ := ux_158E
            have ux_158uc := UC.tr hp2 ux_158u0
            have ux_158L0 : Lx zi ux_158R := by rw [← ux_158e]; exact x_un fu _ _ _
            have ux_158L := Lx.tr hp4 ux_158L0
            refine lv_istore (lv' := [(4, .int r_151), (0, .ref (ga G 4)), (1, .int (nI a9)), (2, .int (nI b9)), (3, .int (nI dp)), (5, .ref r_139), (6, .int (nI ah)), (7, .int (nI i))]) hx hb dX5_under_377 hl (by decide) rfl (fun ls hl => ?_)
            refine lv_iinc (v := nI (i + 1)) (lv' := [(7, .int (nI (i + 1))), (4, .int r_151), (0, .ref (ga G 4)), (1, .int (nI a9)), (2, .int (nI b9)), (3, .int (nI dp)), (5, .ref r_139), (6, .int (nI ah))]) hx hb dX5_under_379 hl (k := 7) rfl (nI_1 i) (by decide) rfl (fun ls hl => ?_)
            refine lv_goto (tgt := 350) hx hb dX5_under_382 (by decide) ?_
            exact ih9 _ _ _ _ _ ⟨S_152, ux_158T, ux_158V, ux_158X, ux_158Y, ux_158Z, ux_158q, ux_158R, ux_158t, r_151, i + 1, ls, hC, hh, hpp, aw_155t, by omega, ux_158, ux_158uc, ux_158M, ux_158L, (by rw [hp5, fold_step hi]; exact congrArg (List.foldl (fun s x => un fu s a9 x) · ((row z1 1 b9).drop (i + 1))) ux_158e), ha_157, ha_157r, rfl, rfl, hP, hD, hS, lv_sub hl [2, 3, 4, 5, 1, 6, 7, 0] rfl, rfl⟩
      · skip
        subst wd_19
        refine lv_tableIn (tgt := 388) hx hb dX5_under_52 (by decide) (by decide) (by rfl) (by decide) ?_
        refine lv_aload_n hx hb dX5_under_388 rfl (lv_at hl 1 rfl) ?_
        refine lv_aload_n hx hb dX5_under_389 rfl (lv_at hl 1 rfl) ?_
        refine va_get (D := gD G) (ci := 5) (v := .ref (ga G 2)) (C := RX5) (T := TX5) (N := 15) hx hb htu cu_in5 hown hK hP 4 cw_4 rfl 1 (by decide) (htu _ C_45) (fun _ h9 => h9) rfl dX5_under_390 ?_
        refine lv_iload_n hx hb dX5_under_393 rfl (lv_at hl 2 rfl) ?_
        have hC0 := hC
        refine c_ci (c_runV (As := [.int (nI a9)]) (rest := [.ref (ga G 4)]) (q0 := 2) (ci := 4) ⟨hx, hb, hml, hown, htu⟩ (y_levelOf l G S_5 (nI a9) hC  H) (cwV 1 htu hU_X5_206 rfl rfl rfl (by decide +kernel) ⟨show 1 + 1 ≤ (fu + 1) + 70 by omega, show 8 + (2 + 11) + 21 ≤ 40 * (fu + 1) + 3000 by omega⟩) hP hK hD hC hpp cw_2 rfl rfl hl.1 rfl (lv_room (Nat.le_of_ble_eq_true rfl)) dX5_under_394) hS hD hh hpp (fun r_159 S_160 H locs hw_161 hP hD hS hC hh hs_162 hpq => ?_)
        clear hpp
        have hpp := hpq
        clear hpq
        obtain ⟨-, hu9, hw_161⟩ := hw_161
        have hu9 := hu9.symm
        subst hu9
        obtain rfl : r_159 = nI (lev z1 a9) := hw_161.trans (kt1.rl a1)
        refine lv_aload_n hx hb dX5_under_397 rfl (lv_at hl 1 rfl) ?_
        refine va_get (D := gD G) (ci := 5) (v := .ref (ga G 2)) (C := RX5) (T := TX5) (N := 15) hx hb htu cu_in5 hown hK hP 4 cw_4 rfl 1 (by decide) (htu _ C_45) (fun _ h9 => h9) rfl dX5_under_398 ?_
        refine lv_iload_n hx hb dX5_under_401 rfl (lv_at hl 2 rfl) ?_
        have hC0 := hC
        refine c_ci (c_runV (As := [.int (nI a9)]) (rest := [.int (nI (lev z1 a9)), .ref (ga G 4)]) (q0 := 2) (ci := 4) ⟨hx, hb, hml, hown, htu⟩ (y_levelOf l G S_5 (nI a9) hC  H) (cwV 1 htu hU_X5_206 rfl rfl rfl (by decide +kernel) ⟨show 1 + 1 ≤ (fu + 1) + 70 by omega, show 8 + (2 + 11) + 21 ≤ 40 * (fu + 1) + 3000 by omega⟩) hP hK hD hC hpp cw_2 rfl rfl hl.1 rfl (lv_room (Nat.le_of_ble_eq_true rfl)) dX5_under_402) hS hD hh hpp (fun r_163 S_164 H locs hw_165 hP hD hS hC hh hs_166 hpq => ?_)
        clear hpp
        have hpp := hpq
        clear hpq
        obtain ⟨-, hu9, hw_165⟩ := hw_165
        have hu9 := hu9.symm
        subst hu9
        obtain rfl : r_163 = nI (lev z1 a9) := hw_165.trans (kt1.rl a1)
        have hC0 := hC
        refine c_cv (c_runV (As := [.int (nI (lev z1 a9)), .int (nI (lev z1 a9))]) (rest := []) (q0 := 4) (ci := 5) ⟨hx, hb, hml, hown, htu⟩ (x_startCopying l G S_5 (nI (lev z1 a9)) (nI (lev z1 a9)) tm hC t81 ((by omega)) H) (cwV 2 htu hU_X5_127 rfl rfl rfl (by decide +kernel) ⟨show 0 + 1 ≤ (fu + 1) + 70 by omega, show 8 + (3 + 11) + 0 ≤ 40 * (fu + 1) + 3000 by omega⟩) hP hK hD hC hpp cw_4 rfl rfl hl.1 rfl (lv_room (Nat.le_of_ble_eq_true rfl)) dX5_under_405) hS hD hh hpp (fun S_168 H locs hw_169 hP hD hS hC hh hs_170 hpq => ?_)
        clear hpp
        have hpp := hpq
        clear hpq
        try dsimp only at hw_169
        have aw_171 : AW [] [8, 9, 10] S_5 S_168 := hw_169.1
        have aw_171t : AW [6, 7, 8, 9, 16, 14, 10, 11, 12, 13, 17, 18, 25, 26, 35] [8, 9, 10, 12] S S_168 := aw_8t.tr (aw_171.mono (by decide) (by decide))
        have kk_172 : kK S_168 15 = 0 := (aw_171.2.1 15 (lt35 (by decide)) (by decide)).2.trans kk_9
        have ii_173 : S_168.1 12 = nI (q + 1) := (aw_171.1 12 (by decide)).trans ii_10
        have ty_174 := TY.aw ty_12 aw_171 (by decide)
        refine lv_aload_n hx hb dX5_under_408 rfl (lv_at hl 1 rfl) ?_
        refine lv_iload_n hx hb dX5_under_409 rfl (lv_at hl 3 rfl) ?_
        refine lv_iconst (v := 1) hx hb dX5_under_410 (by decide) ?_
        refine lv_iconst (v := 1) hx hb dX5_under_411 (by decide) ?_
        have cb_175 : ∀ j, j < 2 * V → kK S_168 (35 + j) ≤ q + 1 + V := fun j hj => by rw [AW.bnd aw_171 (by decide) (show 2 * V ≤ kB S_5 from ty_12.2.1.2.2.1) j hj]; exact Nat.le_trans (tb2 j hj) (by omega)
        have cb_175k : KT S_168 (newTime z1) := (kt1.aw aw_171 (by decide)).time
        have cb_175m : KM S_168 (newTime z1) (tm + 1) := (km1.aw aw_171 (by decide)).ml
        have cb_175q : KQ S_168 (newTime z1) := kq1.aw aw_171 (by decide) rfl rfl
        have cb_175s := sg_aw sg1 aw_171 (by decide)
        have hC0 := hC
        refine c_ci (c_runV (As := [.int (nI b9), .int 1, .int 1]) (rest := []) (q0 := 4) (ci := 5) ⟨hx, hb, hml, hown, htu⟩ ((x_copied_all 60) l G S_168 T V X Y (Z + 1) (q + 1) 1 1 1 ((newTime z1)) b9 ((lev z1 a9)) ((lev z1 a9)) ((tm + 1)) hC ty_174 cb_175 ((by omega)) kk_172 ((Or.inr ⟨by decide, rfl⟩)) ((by decide)) ((show 1 + 60 = 61 by decide)) ((by omega)) hw_169.2.1 hw_169.2.2.1 hw_169.2.2.2 ((by omega)) ((by omega)) ((by omega)) cb_175k cb_175m cb_175q h01 b1 H) (cwV 3 htu hU_X5_131 rfl rfl rfl (by decide +kernel) ⟨show (60 + 4) + 1 ≤ (fu + 1) + 70 by omega, show 8 + (12 + 11) + (42 * 60 + 140) ≤ 40 * (fu + 1) + 3000 by omega⟩) hP hK hD hC hpp cw_4 rfl rfl hl.1 rfl (lv_room (Nat.le_of_ble_eq_true rfl)) dX5_under_412) hS hD hh hpp (fun r_176 S_177 H locs hw_178 hP hD hS hC hh hs_179 hpq => ?_)
        clear hpp
        have hpp := hpq
        clear hpq
        try dsimp only at hw_178
        have aw_180 : AW [6, 7, 8, 9, 16, 14, 10, 11, 12, 13, 25, 26, 35] [] S_168 S_177 := hw_178.1
        have aw_180t : AW [6, 7, 8, 9, 16, 14, 10, 11, 12, 13, 17, 18, 25, 26, 35] [8, 9, 10, 12] S S_177 := aw_171t.tr (aw_180.mono (by decide) (by decide))
        have kk_181 : kK S_177 15 = 0 := (aw_180.2.1 15 (lt35 (by decide)) (by decide)).2.trans kk_172
        have ii_182 : S_177.1 12 = nI (q + 1) := (aw_180.1 12 (by decide)).trans ii_173
        have ii_183 : S_177.1 8 = nI (tm + 1) := (aw_180.1 8 (by decide)).trans hw_169.2.1
        have ii_184 : S_177.1 9 = nI (lev z1 a9) := (aw_180.1 9 (by decide)).trans hw_169.2.2.1
        have ii_185 : S_177.1 10 = nI (lev z1 a9) := (aw_180.1 10 (by decide)).trans hw_169.2.2.2
        obtain ⟨cx_186C, cx_186E⟩ := hw_178.2
        clear hw_178
        obtain ⟨cx_186T, cx_186V, cx_186X, cx_186Y, cx_186, cx_186a, cx_186b, cx_186c⟩ := cx_186C
        have cx_18612 : S_177.1 12 = nI (q + 1) := ii_182
        have cx_186s : US S_177 cx_186T cx_186V cx_186X cx_186Y (Z + 1) (q + 1) := ⟨cx_186.1, cx_18612, Nat.succ_le_succ hZq, cx_186.2.2.2.2.2⟩
        obtain ⟨cx_186R, cx_186e⟩ : ∃ R, startCp z1 b9 1 (lev z1 a9) (lev z1 a9) = R := ⟨_, rfl⟩
        have cx_186L : Lx z1 cx_186R.1 := by rw [← cx_186e]; exact x_start _ _ _ _ _
        have cx_186W : Wc z1 cx_186R.1 := by rw [← cx_186e]; exact wc_start _ _ _ _ _
        rw [show cp 60 (newTime z1) b9 1 (lev z1 a9) (lev z1 a9) = cx_186R from cx_186e] at cx_186E
        obtain ⟨cx_186k, cx_186m, cx_186q, cx_186g0, cx_186g, cx_186bd⟩ := cx_186E
        have cx_1868 : S_177.1 8 = nI (tm + 1) := ii_183
        have cx_186sp : stp cx_186R.1 = q + 1 := cx_186W.2.trans sq1
        have cx_186uc : UC S S_177 Y tm z cx_186R.1 (tm + 1) := ⟨cx_186k, cx_186q, cx_186m.m0, cx_1868, Nat.le_succ _, by omega, by omega, sg_tr cb_175s cx_186g0 (Nat.le_refl _)⟩
        rcases Nat.eq_zero_or_pos (sto cx_186R.1) with cx_186z | cx_186z
        · skip
          obtain ⟨cx_186v, cx_186x⟩ := cx_186g cx_186z
          subst cx_186v
          have cx_186n6 := cx_186k.1.2.2.2.2.2.2.2.1
          have cx_1860 : 0 ≤ nI cx_186R.2 := Int32.not_lt.mp (nI_n0 (by omega))
          have cx_186ye : cx_186Y = Y := cx_186c (Int32.not_lt.mpr cx_1860)
          rw [cx_186ye] at cx_186s cx_186
          have cx_186r : UR S_177 T V Y q cx_186T cx_186V cx_186X Y (Z + 1) (q + 1) 0 := ⟨cx_186s, ⟨cx_186.2.1, cx_186.2.2.1, Nat.le_succ _, Nat.succ_le_succ hq, Nat.le_refl _, Nat.le_add_right _ _⟩, Or.inl rfl, fun _ => ⟨q15, rfl⟩⟩
          refine lv_istore (lv' := [(5, .int (nI cx_186R.2)), (4, .int 0), (0, .ref (ga G 4)), (1, .int (nI a9)), (2, .int (nI b9)), (3, .int (nI dp))]) hx hb dX5_under_415 hl (by decide) rfl (fun ls hl => ?_)
          refine lv_iload hx hb dX5_under_417 (lv_at hl 0 rfl) ?_
          refine lv_if_ge (tgt := 427) hx hb dX5_under_419 (by decide) (fun c_187 => ?_) (fun c_187 => absurd (Int32.not_lt.mp (nI_n0 (by omega))) c_187)
          refine lv_aload_n hx hb dX5_under_427 rfl (lv_at hl 2 rfl) ?_
          refine lv_iload_n hx hb dX5_under_428 rfl (lv_at hl 3 rfl) ?_
          refine lv_iload hx hb dX5_under_429 (lv_at hl 0 rfl) ?_
          refine lv_iload_n hx hb dX5_under_431 rfl (lv_at hl 5 rfl) ?_
          refine lv_iconst (v := 1) hx hb dX5_under_432 (by decide) ?_
          refine lv_iadd hx hb dX5_under_433 ?_
          refine m_top (y := nI (dp + 1)) (nI_add dp 1) ?_
          have hC0 := hC
          refine c_ci (c_runV (As := [.int (nI a9), .int (nI cx_186R.2), .int (nI (dp + 1))]) (rest := []) (q0 := 4) (ci := 5) ⟨hx, hb, hml, hown, htu⟩ (ih l G S_177 cx_186T cx_186V cx_186X Y ((Z + 1)) ((q + 1)) (dp + 1) cx_186R.1 a9 cx_186R.2 ((tm + 1)) hC cx_186r.1 ((by omega)) kk_181 ((by omega)) hY2 cx_186uc.1 cx_186uc.2.1 cx_186uc.2.2.1 cx_186uc.2.2.2.1 ((by have := cx_186uc.2.2.2.2; omega)) cx_186z cx_186sp ((Nat.lt_of_lt_of_le a1 cx_186L.1)) cx_186x H) (cwV 3 htu hU_X5_150 rfl rfl rfl (by decide +kernel) ⟨show (fu + 70) + 1 ≤ (fu + 1) + 70 by omega, show 8 + (8 + 11) + (40 * fu + 3000) ≤ 40 * (fu + 1) + 3000 by omega⟩) hP hK hD hC hpp cw_4 rfl rfl hl.1 rfl (lv_room (Nat.le_of_ble_eq_true rfl)) dX5_under_434) hS hD hh hpp (fun r_188 S_189 H locs hw_190 hP hD hS hC hh hs_191 hpq => ?_)
          clear hpp
          have hpp := hpq
          clear hpq
          try dsimp only at hw_190
          have aw_192 : AW [6, 7, 8, 9, 16, 14, 10, 11, 12, 13, 17, 18, 25, 26, 35] [8, 9, 10, 12] S_177 S_189 := hw_190.1
          have aw_192t : AW [6, 7, 8, 9, 16, 14, 10, 11, 12, 13, 17, 18, 25, 26, 35] [8, 9, 10, 12] S S_189 := aw_180t.tr (aw_192.mono (by decide) (by decide))
          have kk_193 : kK S_189 15 = 0 := (aw_192.2.1 15 (lt35 (by decide)) (by decide)).2.trans kk_181
          obtain ⟨ux_194W, ux_194E⟩ := hw_190.2
          clear hw_190
          have ux_194x := cx_186r.tr ux_194W
          obtain ⟨ux_194T, ux_194V, ux_194X, ux_194Y, ux_194Z, ux_194q, ux_194⟩ := id ux_194x
          obtain ⟨ux_194R, ux_194e⟩ : ∃ R, un fu cx_186R.1 a9 cx_186R.2 = R := ⟨_, rfl⟩
          rw [ux_194e] at ux_194E
          obtain ⟨⟨ux_194t, ux_194u0⟩, ux_194M⟩ := ux_194E
          have ux_194uc := UC.tr cx_186uc ux_194u0
          have ux_194L0 : Lx cx_186R.1 ux_194R := by rw [← ux_194e]; exact x_un fu _ _ _
          have ux_194L := Lx.tr cx_186L ux_194L0
          exact c_iret (v := r_188) hx hb hr hK hP hD hS hC hh hpp ⟨aw_192t, ⟨ux_194x, UE.mk ux_194uc ux_194M (by rw [hun, asks_5 wd_19a wd_19b wd_19c, cx_186e, ux_194e])⟩⟩ dX5_under_437 hlocks
        · skip
          have cx_186zz : sto cx_186R.1 ≠ 0 := by omega
          have cx_186v := cx_186bd cx_186zz
          have cx_186ng : r_176 < 0 := by rw [cx_186v]; exact sc_neg cx_186zz
          have cx_186bx : UX S_177 T V Y q r_176 := ⟨_, _, _, _, _, _, cx_186s, ⟨cx_186.2.1, cx_186.2.2.1, Nat.le_succ _, Nat.succ_le_succ hq, cx_186a, by omega⟩, Or.inr cx_186ng, fun h => by rw [h] at cx_186ng; exact absurd cx_186ng (by decide)⟩
          refine lv_istore (lv' := [(5, .int r_176), (4, .int 0), (0, .ref (ga G 4)), (1, .int (nI a9)), (2, .int (nI b9)), (3, .int (nI dp))]) hx hb dX5_under_415 hl (by decide) rfl (fun ls hl => ?_)
          refine lv_iload hx hb dX5_under_417 (lv_at hl 0 rfl) ?_
          refine lv_if_ge (tgt := 427) hx hb dX5_under_419 (by decide) (fun c_195 => absurd c_195 (Int32.not_le.mpr cx_186ng)) (fun c_195 => ?_)
          refine lv_iload hx hb dX5_under_422 (lv_at hl 0 rfl) ?_
          refine lv_goto (tgt := 437) hx hb dX5_under_424 (by decide) ?_
          exact c_iret (v := r_176) hx hb hr hK hP hD hS hC hh hpp ⟨aw_180t, ⟨cx_186bx, UE.mk cx_186uc ⟨fun h => absurd h cx_186zz, fun _ => cx_186v⟩ (by rw [hun, asks_5 wd_19a wd_19b wd_19c, cx_186e, un_st cx_186zz])⟩⟩ dX5_under_437 hlocks
      · skip
        subst wd_19
        refine lv_tableIn (tgt := 438) hx hb dX5_under_52 (by decide) (by decide) (by rfl) (by decide) ?_
        refine lv_aload_n hx hb dX5_under_438 rfl (lv_at hl 1 rfl) ?_
        refine lv_aload_n hx hb dX5_under_439 rfl (lv_at hl 1 rfl) ?_
        refine va_get (D := gD G) (ci := 5) (v := .ref (ga G 2)) (C := RX5) (T := TX5) (N := 15) hx hb htu cu_in5 hown hK hP 4 cw_4 rfl 1 (by decide) (htu _ C_45) (fun _ h9 => h9) rfl dX5_under_440 ?_
        refine lv_iload_n hx hb dX5_under_443 rfl (lv_at hl 3 rfl) ?_
        have hC0 := hC
        refine c_ci (c_runV (As := [.int (nI b9)]) (rest := [.ref (ga G 4)]) (q0 := 2) (ci := 4) ⟨hx, hb, hml, hown, htu⟩ (y_levelOf l G S_5 (nI b9) hC  H) (cwV 1 htu hU_X5_206 rfl rfl rfl (by decide +kernel) ⟨show 1 + 1 ≤ (fu + 1) + 70 by omega, show 8 + (2 + 11) + 21 ≤ 40 * (fu + 1) + 3000 by omega⟩) hP hK hD hC hpp cw_2 rfl rfl hl.1 rfl (lv_room (Nat.le_of_ble_eq_true rfl)) dX5_under_444) hS hD hh hpp (fun r_196 S_197 H locs hw_198 hP hD hS hC hh hs_199 hpq => ?_)
        clear hpp
        have hpp := hpq
        clear hpq
        obtain ⟨-, hu9, hw_198⟩ := hw_198
        have hu9 := hu9.symm
        subst hu9
        obtain rfl : r_196 = nI (lev z1 b9) := hw_198.trans (kt1.rl b1)
        refine lv_aload_n hx hb dX5_under_447 rfl (lv_at hl 1 rfl) ?_
        refine va_get (D := gD G) (ci := 5) (v := .ref (ga G 2)) (C := RX5) (T := TX5) (N := 15) hx hb htu cu_in5 hown hK hP 4 cw_4 rfl 1 (by decide) (htu _ C_45) (fun _ h9 => h9) rfl dX5_under_448 ?_
        refine lv_iload_n hx hb dX5_under_451 rfl (lv_at hl 3 rfl) ?_
        have hC0 := hC
        refine c_ci (c_runV (As := [.int (nI b9)]) (rest := [.int (nI (lev z1 b9)), .ref (ga G 4)]) (q0 := 2) (ci := 4) ⟨hx, hb, hml, hown, htu⟩ (y_levelOf l G S_5 (nI b9) hC  H) (cwV 1 htu hU_X5_206 rfl rfl rfl (by decide +kernel) ⟨show 1 + 1 ≤ (fu + 1) + 70 by omega, show 8 + (2 + 11) + 21 ≤ 40 * (fu + 1) + 3000 by omega⟩) hP hK hD hC hpp cw_2 rfl rfl hl.1 rfl (lv_room (Nat.le_of_ble_eq_true rfl)) dX5_under_452) hS hD hh hpp (fun r_200 S_201 H locs hw_202 hP hD hS hC hh hs_203 hpq => ?_)
        clear hpp
        have hpp := hpq
        clear hpq
        obtain ⟨-, hu9, hw_202⟩ := hw_202
        have hu9 := hu9.symm
        subst hu9
        obtain rfl : r_200 = nI (lev z1 b9) := hw_202.trans (kt1.rl b1)
        have hC0 := hC
        refine c_cv (c_runV (As := [.int (nI (lev z1 b9)), .int (nI (lev z1 b9))]) (rest := []) (q0 := 4) (ci := 5) ⟨hx, hb, hml, hown, htu⟩ (x_startCopying l G S_5 (nI (lev z1 b9)) (nI (lev z1 b9)) tm hC t81 ((by omega)) H) (cwV 2 htu hU_X5_127 rfl rfl rfl (by decide +kernel) ⟨show 0 + 1 ≤ (fu + 1) + 70 by omega, show 8 + (3 + 11) + 0 ≤ 40 * (fu + 1) + 3000 by omega⟩) hP hK hD hC hpp cw_4 rfl rfl hl.1 rfl (lv_room (Nat.le_of_ble_eq_true rfl)) dX5_under_455) hS hD hh hpp (fun S_205 H locs hw_206 hP hD hS hC hh hs_207 hpq => ?_)
        clear hpp
        have hpp := hpq
        clear hpq
        try dsimp only at hw_206
        have aw_208 : AW [] [8, 9, 10] S_5 S_205 := hw_206.1
        have aw_208t : AW [6, 7, 8, 9, 16, 14, 10, 11, 12, 13, 17, 18, 25, 26, 35] [8, 9, 10, 12] S S_205 := aw_8t.tr (aw_208.mono (by decide) (by decide))
        have kk_209 : kK S_205 15 = 0 := (aw_208.2.1 15 (lt35 (by decide)) (by decide)).2.trans kk_9
        have ii_210 : S_205.1 12 = nI (q + 1) := (aw_208.1 12 (by decide)).trans ii_10
        have ty_211 := TY.aw ty_12 aw_208 (by decide)
        refine lv_aload_n hx hb dX5_under_458 rfl (lv_at hl 1 rfl) ?_
        refine lv_iload_n hx hb dX5_under_459 rfl (lv_at hl 2 rfl) ?_
        refine lv_iconst (v := 0) hx hb dX5_under_460 (by decide) ?_
        refine lv_iconst (v := 1) hx hb dX5_under_461 (by decide) ?_
        have cb_212 : ∀ j, j < 2 * V → kK S_205 (35 + j) ≤ q + 1 + V := fun j hj => by rw [AW.bnd aw_208 (by decide) (show 2 * V ≤ kB S_5 from ty_12.2.1.2.2.1) j hj]; exact Nat.le_trans (tb2 j hj) (by omega)
        have cb_212k : KT S_205 (newTime z1) := (kt1.aw aw_208 (by decide)).time
        have cb_212m : KM S_205 (newTime z1) (tm + 1) := (km1.aw aw_208 (by decide)).ml
        have cb_212q : KQ S_205 (newTime z1) := kq1.aw aw_208 (by decide) rfl rfl
        have cb_212s := sg_aw sg1 aw_208 (by decide)
        have hC0 := hC
        refine c_ci (c_runV (As := [.int (nI a9), .int 0, .int 1]) (rest := []) (q0 := 4) (ci := 5) ⟨hx, hb, hml, hown, htu⟩ ((x_copied_all 60) l G S_205 T V X Y (Z + 1) (q + 1) 1 1 0 ((newTime z1)) a9 ((lev z1 b9)) ((lev z1 b9)) ((tm + 1)) hC ty_211 cb_212 ((by omega)) kk_209 ((Or.inr ⟨by decide, rfl⟩)) ((by decide)) ((show 1 + 60 = 61 by decide)) ((by omega)) hw_206.2.1 hw_206.2.2.1 hw_206.2.2.2 ((by omega)) ((by omega)) ((by omega)) cb_212k cb_212m cb_212q h01 a1 H) (cwV 3 htu hU_X5_131 rfl rfl rfl (by decide +kernel) ⟨show (60 + 4) + 1 ≤ (fu + 1) + 70 by omega, show 8 + (12 + 11) + (42 * 60 + 140) ≤ 40 * (fu + 1) + 3000 by omega⟩) hP hK hD hC hpp cw_4 rfl rfl hl.1 rfl (lv_room (Nat.le_of_ble_eq_true rfl)) dX5_under_462) hS hD hh hpp (fun r_213 S_214 H locs hw_215 hP hD hS hC hh hs_216 hpq => ?_)
        clear hpp
        have hpp := hpq
        clear hpq
        try dsimp only at hw_215
        have aw_217 : AW [6, 7, 8, 9, 16, 14, 10, 11, 12, 13, 25, 26, 35] [] S_205 S_214 := hw_215.1
        have aw_217t : AW [6, 7, 8, 9, 16, 14, 10, 11, 12, 13, 17, 18, 25, 26, 35] [8, 9, 10, 12] S S_214 := aw_208t.tr (aw_217.mono (by decide) (by decide))
        have kk_218 : kK S_214 15 = 0 := (aw_217.2.1 15 (lt35 (by decide)) (by decide)).2.trans kk_209
        have ii_219 : S_214.1 12 = nI (q + 1) := (aw_217.1 12 (by decide)).trans ii_210
        have ii_220 : S_214.1 8 = nI (tm + 1) := (aw_217.1 8 (by decide)).trans hw_206.2.1
        have ii_221 : S_214.1 9 = nI (lev z1 b9) := (aw_217.1 9 (by decide)).trans hw_206.2.2.1
        have ii_222 : S_214.1 10 = nI (lev z1 b9) := (aw_217.1 10 (by decide)).trans hw_206.2.2.2
        obtain ⟨cx_223C, cx_223E⟩ := hw_215.2
        clear hw_215
        obtain ⟨cx_223T, cx_223V, cx_223X, cx_223Y, cx_223, cx_223a, cx_223b, cx_223c⟩ := cx_223C
        have cx_22312 : S_214.1 12 = nI (q + 1) := ii_219
        have cx_223s : US S_214 cx_223T cx_223V cx_223X cx_223Y (Z + 1) (q + 1) := ⟨cx_223.1, cx_22312, Nat.succ_le_succ hZq, cx_223.2.2.2.2.2⟩
        obtain ⟨cx_223R, cx_223e⟩ : ∃ R, startCp z1 a9 0 (lev z1 b9) (lev z1 b9) = R := ⟨_, rfl⟩
        have cx_223L : Lx z1 cx_223R.1 := by rw [← cx_223e]; exact x_start _ _ _ _ _
        have cx_223W : Wc z1 cx_223R.1 := by rw [← cx_223e]; exact wc_start _ _ _ _ _
        rw [show cp 60 (newTime z1) a9 0 (lev z1 b9) (lev z1 b9) = cx_223R from cx_223e] at cx_223E
        obtain ⟨cx_223k, cx_223m, cx_223q, cx_223g0, cx_223g, cx_223bd⟩ := cx_223E
        have cx_2238 : S_214.1 8 = nI (tm + 1) := ii_220
        have cx_223sp : stp cx_223R.1 = q + 1 := cx_223W.2.trans sq1
        have cx_223uc : UC S S_214 Y tm z cx_223R.1 (tm + 1) := ⟨cx_223k, cx_223q, cx_223m.m0, cx_2238, Nat.le_succ _, by omega, by omega, sg_tr cb_212s cx_223g0 (Nat.le_refl _)⟩
        rcases Nat.eq_zero_or_pos (sto cx_223R.1) with cx_223z | cx_223z
        · skip
          obtain ⟨cx_223v, cx_223x⟩ := cx_223g cx_223z
          subst cx_223v
          have cx_223n6 := cx_223k.1.2.2.2.2.2.2.2.1
          have cx_2230 : 0 ≤ nI cx_223R.2 := Int32.not_lt.mp (nI_n0 (by omega))
          have cx_223ye : cx_223Y = Y := cx_223c (Int32.not_lt.mpr cx_2230)
          rw [cx_223ye] at cx_223s cx_223
          have cx_223r : UR S_214 T V Y q cx_223T cx_223V cx_223X Y (Z + 1) (q + 1) 0 := ⟨cx_223s, ⟨cx_223.2.1, cx_223.2.2.1, Nat.le_succ _, Nat.succ_le_succ hq, Nat.le_refl _, Nat.le_add_right _ _⟩, Or.inl rfl, fun _ => ⟨q15, rfl⟩⟩
          refine lv_istore (lv' := [(5, .int (nI cx_223R.2)), (4, .int 0), (0, .ref (ga G 4)), (1, .int (nI a9)), (2, .int (nI b9)), (3, .int (nI dp))]) hx hb dX5_under_465 hl (by decide) rfl (fun ls hl => ?_)
          refine lv_iload hx hb dX5_under_467 (lv_at hl 0 rfl) ?_
          refine lv_if_ge (tgt := 477) hx hb dX5_under_469 (by decide) (fun c_224 => ?_) (fun c_224 => absurd (Int32.not_lt.mp (nI_n0 (by omega))) c_224)
          refine lv_aload_n hx hb dX5_under_477 rfl (lv_at hl 2 rfl) ?_
          refine lv_iload hx hb dX5_under_478 (lv_at hl 0 rfl) ?_
          refine lv_iload_n hx hb dX5_under_480 rfl (lv_at hl 4 rfl) ?_
          refine lv_iload_n hx hb dX5_under_481 rfl (lv_at hl 5 rfl) ?_
          refine lv_iconst (v := 1) hx hb dX5_under_482 (by decide) ?_
          refine lv_iadd hx hb dX5_under_483 ?_
          refine m_top (y := nI (dp + 1)) (nI_add dp 1) ?_
          have hC0 := hC
          refine c_ci (c_runV (As := [.int (nI cx_223R.2), .int (nI b9), .int (nI (dp + 1))]) (rest := []) (q0 := 4) (ci := 5) ⟨hx, hb, hml, hown, htu⟩ (ih l G S_214 cx_223T cx_223V cx_223X Y ((Z + 1)) ((q + 1)) (dp + 1) cx_223R.1 cx_223R.2 b9 ((tm + 1)) hC cx_223r.1 ((by omega)) kk_218 ((by omega)) hY2 cx_223uc.1 cx_223uc.2.1 cx_223uc.2.2.1 cx_223uc.2.2.2.1 ((by have := cx_223uc.2.2.2.2; omega)) cx_223z cx_223sp cx_223x ((Nat.lt_of_lt_of_le b1 cx_223L.1)) H) (cwV 3 htu hU_X5_150 rfl rfl rfl (by decide +kernel) ⟨show (fu + 70) + 1 ≤ (fu + 1) + 70 by omega, show 8 + (8 + 11) + (40 * fu + 3000) ≤ 40 * (fu + 1) + 3000 by omega⟩) hP hK hD hC hpp cw_4 rfl rfl hl.1 rfl (lv_room (Nat.le_of_ble_eq_true rfl)) dX5_under_484) hS hD hh hpp (fun r_225 S_226 H locs hw_227 hP hD hS hC hh hs_228 hpq => ?_)
          clear hpp
          have hpp := hpq
          clear hpq
          try dsimp only at hw_227
          have aw_229 : AW [6, 7, 8, 9, 16, 14, 10, 11, 12, 13, 17, 18, 25, 26, 35] [8, 9, 10, 12] S_214 S_226 := hw_227.1
          have aw_229t : AW [6, 7, 8, 9, 16, 14, 10, 11, 12, 13, 17, 18, 25, 26, 35] [8, 9, 10, 12] S S_226 := aw_217t.tr (aw_229.mono (by decide) (by decide))
          have kk_230 : kK S_226 15 = 0 := (aw_229.2.1 15 (lt35 (by decide)) (by decide)).2.trans kk_218
          obtain ⟨ux_231W, ux_231E⟩ := hw_227.2
          clear hw_227
          have ux_231x := cx_223r.tr ux_231W
          obtain ⟨ux_231T, ux_231V, ux_231X, ux_231Y, ux_231Z, ux_231q, ux_231⟩ := id ux_231x
          obtain ⟨ux_231R, ux_231e⟩ : ∃ R, un fu cx_223R.1 cx_223R.2 b9 = R := ⟨_, rfl⟩
          rw [ux_231e] at ux_231E
          obtain ⟨⟨ux_231t, ux_231u0⟩, ux_231M⟩ := ux_231E
          have ux_231uc := UC.tr cx_223uc ux_231u0
          have ux_231L0 : Lx cx_223R.1 ux_231R := by rw [← ux_231e]; exact x_un fu _ _ _
          have ux_231L := Lx.tr cx_223L ux_231L0
          exact c_iret (v := r_225) hx hb hr hK hP hD hS hC hh hpp ⟨aw_229t, ⟨ux_231x, UE.mk ux_231uc ux_231M (by rw [hun, asks_6 wd_19a wd_19b wd_19c, cx_223e, ux_231e])⟩⟩ dX5_under_487 hlocks
        · skip
          have cx_223zz : sto cx_223R.1 ≠ 0 := by omega
          have cx_223v := cx_223bd cx_223zz
          have cx_223ng : r_213 < 0 := by rw [cx_223v]; exact sc_neg cx_223zz
          have cx_223bx : UX S_214 T V Y q r_213 := ⟨_, _, _, _, _, _, cx_223s, ⟨cx_223.2.1, cx_223.2.2.1, Nat.le_succ _, Nat.succ_le_succ hq, cx_223a, by omega⟩, Or.inr cx_223ng, fun h => by rw [h] at cx_223ng; exact absurd cx_223ng (by decide)⟩
          refine lv_istore (lv' := [(5, .int r_213), (4, .int 0), (0, .ref (ga G 4)), (1, .int (nI a9)), (2, .int (nI b9)), (3, .int (nI dp))]) hx hb dX5_under_465 hl (by decide) rfl (fun ls hl => ?_)
          refine lv_iload hx hb dX5_under_467 (lv_at hl 0 rfl) ?_
          refine lv_if_ge (tgt := 477) hx hb dX5_under_469 (by decide) (fun c_232 => absurd c_232 (Int32.not_le.mpr cx_223ng)) (fun c_232 => ?_)
          refine lv_iload hx hb dX5_under_472 (lv_at hl 0 rfl) ?_
          refine lv_goto (tgt := 487) hx hb dX5_under_474 (by decide) ?_
          exact c_iret (v := r_213) hx hb hr hK hP hD hS hC hh hpp ⟨aw_217t, ⟨cx_223bx, UE.mk cx_223uc ⟨fun h => absurd h cx_223zz, fun _ => cx_223v⟩ (by rw [hun, asks_6 wd_19a wd_19b wd_19c, cx_223e, un_st cx_223zz])⟩⟩ dX5_under_487 hlocks
      · skip
        subst wd_19
        refine lv_tableOut (tgt := 488) hx hb dX5_under_52 (by decide) (by decide) ?_
        refine lv_bipush (v := (-7)) hx hb dX5_under_488 (by decide) ?_
        exact c_iret (v := (-7)) hx hb hr hK hP hD hS hC hh hpp ⟨aw_8t, ⟨⟨_, _, _, _, _, _, ur2.bad (by decide)⟩, UE.mk (uc_stops uc1 2 (askn z1)) (UM.sp h01 (by decide) rfl) (by rw [hun, asks_7 wd_19a wd_19b wd_19c])⟩⟩ dX5_under_490 hlocks

theorem x_under_all : ∀ fu, xUnderAt fu := by
  intro fu
  induction fu with
  | zero => exact fun l G S T V X Y Z q dp z a9 b9 tm hC hU hq h15 hdp hY2 hz hkq hm0 h8 htm h0 hzq ha hb9 Hs => x_under_0 l G S T V X Y Z q dp z a9 b9 tm hC hU hq h15 hdp hY2 hz hkq hm0 h8 htm h0 hzq ha hb9 Hs
  | succ fu ih => exact fun l G S T V X Y Z q dp z a9 b9 tm hC hU hq h15 hdp hY2 hz hkq hm0 h8 htm h0 hzq ha hb9 Hs => x_under_s l G S fu T V X Y Z q dp z a9 b9 tm hC ih hU hq h15 hdp hY2 hz hkq hm0 h8 htm h0 hzq ha hb9 Hs

