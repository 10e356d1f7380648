set_option maxHeartbeats 4000000 in
set_option maxRecDepth 100000 in
/-- typed, too deep -/
theorem x_typed_0 (l : Launch) (G : cG) (S : cS) (T : Nat) (V : Nat) (X : Nat) (Y : Nat) (Z : Nat) (q : Nat) (N : Nat) (dp : Nat) (lv : Nat) (tr : aM) (mk : Nat → Int32) (rk : Nat → Nat) (top : Nat) (gs : Nat → Prop) (z : aS) (n9 : Nat) (tm : Nat) (hC : CL S) (hU : US S T V X Y Z q) (hq : q ≤ 1500) (h15 : kK S 15 = 0) (hT : TJ S N) (hdp : dp + 0 = 61) (hlv : lv ≤ dp) (hY2 : Y + (6 * 0 + 372) ≤ 900) (hE : TC S tr mk N) (hO : TO S tr N) (hrk : RKs tr rk N) (hn : n9 < N) (htp : top < N) (h11 : S.1 11 = nI top) (hcv : ∀ j, Cv gs tr top j n9) (hz : KT S z) (hkq : KQ S z) (hm0 : KM0 S tm) (h8 : S.1 8 = nI tm) (htm : tm + 1501 + cntT tr 0 n9 ≤ 2 ^ 29 + stp z) (h0 : sto z = 0) (hzq : stp z = q) (h13 : S.1 13 = -9) (hk2 : kK S 23 = 120 ∧ kK S 24 = 120) (hgc : GC gs z S) (Hs : Heap) : Met l yX5_typed (wC yX5_typed cX5_typed 5 (some .int)) (cRm S (2 * 0 + 140) (60 * 0 + 6500)) (cPc G S Hs [.ref (ga G 4), .int (nI n9), .int (nI lv), .int (nI dp)]) (cQi G S Hs (fun v u => AW [6, 7, 8, 9, 16, 14, 10, 11, 12, 13, 17, 18, 23, 24, 25, 26, 35] [8, 9, 10, 12, 13] S u ∧ (TX u T V Y q (6 * 0 + 372) v ∧ YE S u Y tm (cntT tr 0 n9) gs z (ty tr top 0 z n9 lv) v))) (CC - PT S) (12 * (CC - PT S)) (cA G S Hs.size) := by
  refine Met.ofW (cc := cX5_typed) (maxL := 5) (ret := (some .int)) (by decide) rfl ?_
  intro p e s m args below meth c s₁ B hml hv
  obtain ⟨rfl, hsz, hP, hK, hD0, -⟩ := hv
  have hx := B.exec
  have hb := B.bytes
  have hr := B.returns
  have htu : ∀ w ∈ CU, w.before _ s = true := fun w h => atoms_spec (ws := (wC yX5_typed cX5_typed 5 (some .int))) B.pre w (List.mem_cons_of_mem _ h)
  have hown : s.vm.findClass RX5 = some m.cls := findClass_of_methodNamed B.named
  have hlocks := B.notSynchronized
  subst hsz
  have hD : cD (cA G S s.heap.size) G S := cD_self hD0
  have hl := lv_entry ([.ref (ga G 4), .int (nI n9), .int (nI lv), .int (nI dp)]) (n := 5) (Nat.le_of_ble_eq_true rfl)
  rw [lg_entry_eq]
  generalize (lg_sl ([.ref (ga G 4), .int (nI n9), .int (nI lv), .int (nI dp)]) ++ List.replicate (5 - (lg_sl ([.ref (ga G 4), .int (nI n9), .int (nI lv), .int (nI dp)])).length) Slot.unset).toArray = ls at hl ⊢
  have hl : lv_has ls 5 [(0, .ref (ga G 4)), (1, .int (nI n9)), (2, .int (nI lv)), (3, .int (nI dp))] := hl
  obtain ⟨H, hHe⟩ : ∃ H : Heap, H = s.heap := ⟨_, rfl⟩
  rw [← hHe] at hP
  have hS : va_S (cA G S s.heap.size) s.heap H [] := by rw [hHe]; exact va_S.rf
  have hh : HS S S := HS.rf
  have hpp : PT S ≤ PT S := Nat.le_refl _
  have hB9 := hC.1
  refine W.heq hHe ?_
  refine c_ent (S := S) ?_
  obtain ⟨tT, tV, tB, tX⟩ := id hU.1.2.1
  refine lv_bipush (v := (-6)) hx hb dX5_typed_0 (by decide) ?_
  refine lv_istore (lv' := [(4, .int ((-6))), (0, .ref (ga G 4)), (1, .int (nI n9)), (2, .int (nI lv)), (3, .int (nI dp))]) hx hb dX5_typed_2 hl (by decide) rfl (fun ls hl => ?_)
  refine lv_iload_n hx hb dX5_typed_4 rfl (lv_at hl 4 rfl) ?_
  refine lv_bipush (v := 60) hx hb dX5_typed_5 (by decide) ?_
  refine lv_icmp_gt (tgt := 188) hx hb dX5_typed_7 (by decide) (fun c_1 => ?_) (fun c_1 => absurd ((nI_ltI (a := 60) (b := dp) (by omega) (by omega)).mpr (by omega)) c_1)
  refine lv_iload hx hb dX5_typed_188 (lv_at hl 0 rfl) ?_
  refine lv_if_ge (tgt := 207) hx hb dX5_typed_190 (by decide) (fun c_2 => absurd c_2 (by decide)) (fun c_2 => ?_)
  refine lv_aload_n hx hb dX5_typed_193 rfl (lv_at hl 1 rfl) ?_
  refine va_get (D := gD G) (ci := 5) (v := .int ((-9))) (C := RX5) (T := TX5) (N := 15) hx hb htu cu_in5 hown hK hP 4 cw_4 rfl 13 (by decide) (htu _ C_58) (fun _ h9 => h9) (m_v h13) dX5_typed_194 ?_
  refine lv_bipush (v := (-9)) hx hb dX5_typed_197 (by decide) ?_
  refine lv_icmp_ne (tgt := 207) hx hb dX5_typed_199 (by decide) (fun c_3 => absurd (by decide) c_3) (fun c_3 => ?_)
  refine lv_aload_n hx hb dX5_typed_202 rfl (lv_at hl 1 rfl) ?_
  refine lv_iload_n hx hb dX5_typed_203 rfl (lv_at hl 2 rfl) ?_
  refine c_put4_13 (x := (nI n9)) hx hb htu hown hK hP hD hS (htu _ C_58) dX5_typed_204 (fun H locs hP hD hS => ?_)
  have S_4h : HS S (cO S 13 (nI n9)) := hh
  have S_4c : CL (cO S 13 (nI n9)) := hC
  have S_4p : PT S ≤ PT (cO S 13 (nI n9)) := hpp
  refine c_eq (S1 := S) (S2 := cO S 13 (nI n9)) rfl ?_
  have S_4w : AW [6, 7, 8, 9, 16, 14, 10, 11, 12, 13, 17, 18, 23, 24, 25, 26, 35] [8, 9, 10, 12, 13] S (cO S 13 (nI n9)) := (AW.o AW.rf (by decide))
  have hh := S_4h
  have hC := S_4c
  clear hpp
  have hpp := S_4p
  clear S_4p
  have tj_5 : TJ (cO S 13 (nI n9)) N := hT
  refine lv_iload hx hb dX5_typed_207 (lv_at hl 0 rfl) ?_
  have yc0 := (⟨hz, hkq, hm0, h8, ⟨Nat.le_refl _, by omega, by omega⟩, fun _ _ => ⟨rfl, rfl⟩, hk2, fun _ => ⟨fun _ h => h, hgc⟩⟩ : YC S S Y tm (cntT tr 0 n9) gs z z tm gs)
  have yc1 := yc_o13 (yc_stops yc0 1 n9 (by decide) h0) (x := nI n9)
  exact c_iret (v := (-6)) hx hb hr hK hP hD hS hC hh hpp ⟨S_4w, ⟨TX.o13 (US.txb hU (by omega) (by omega) (by decide)), ⟨tm, gs, yc1⟩, fun h => absurd h (by rw [show (ty tr top 0 z n9 lv).1 = stops z 1 n9 from rfl, sto_sp9 h0]; decide), fun _ => ⟨by rw [show (ty tr top 0 z n9 lv).1 = stops z 1 n9 from rfl, sto_sp9 h0]; rfl, n9, Nat.lt_of_lt_of_le hn hT.1.1, cO_s, by rw [show (ty tr top 0 z n9 lv).1 = w1 (w1 z 0 3 1) 0 4 (n9 + 1) from if_pos h0]; rfl⟩⟩⟩ dX5_typed_209 hlocks

set_option maxHeartbeats 4000000 in
set_option maxRecDepth 100000 in
/-- typed -/
theorem x_typed_s (l : Launch) (G : cG) (S : cS) (fu : Nat) (T : Nat) (V : Nat) (X : Nat) (Y : Nat) (Z : Nat) (q : Nat) (N : Nat) (dp : Nat) (lv : Nat) (tr : aM) (mk : Nat → Int32) (rk : Nat → Nat) (top : Nat) (gs : Nat → Prop) (z : aS) (n9 : Nat) (tm : Nat) (hC : CL S) (ih : xTypedAt fu) (hU : US S T V X Y Z q) (hq : q ≤ 1500) (h15 : kK S 15 = 0) (hT : TJ S N) (hdp : dp + (fu + 1) = 61) (hlv : lv ≤ dp) (hY2 : Y + (6 * (fu + 1) + 372) ≤ 900) (hE : TC S tr mk N) (hO : TO S tr N) (hrk : RKs tr rk N) (hn : n9 < N) (htp : top < N) (h11 : S.1 11 = nI top) (hcv : ∀ j, Cv gs tr top j n9) (hz : KT S z) (hkq : KQ S z) (hm0 : KM0 S tm) (h8 : S.1 8 = nI tm) (htm : tm + 1501 + cntT tr ((fu + 1)) n9 ≤ 2 ^ 29 + stp z) (h0 : sto z = 0) (hzq : stp z = q) (h13 : S.1 13 = -9) (hk2 : kK S 23 = 120 ∧ kK S 24 = 120) (hgc : GC gs z S) (Hs : Heap) : Met l yX5_typed (wC yX5_typed cX5_typed 5 (some .int)) (cRm S (2 * (fu + 1) + 140) (60 * (fu + 1) + 6500)) (cPc G S Hs [.ref (ga G 4), .int (nI n9), .int (nI lv), .int (nI dp)]) (cQi G S Hs (fun v u => AW [6, 7, 8, 9, 16, 14, 10, 11, 12, 13, 17, 18, 23, 24, 25, 26, 35] [8, 9, 10, 12, 13] S u ∧ (TX u T V Y q (6 * (fu + 1) + 372) v ∧ YE S u Y tm (cntT tr ((fu + 1)) n9) gs z (ty tr top ((fu + 1)) z n9 lv) v))) (CC - PT S) (12 * (CC - PT S)) (cA G S Hs.size) := by
  refine Met.ofW (cc := cX5_typed) (maxL := 5) (ret := (some .int)) (by decide) rfl ?_
  intro p e s m args below meth c s₁ B hml hv
  obtain ⟨rfl, hsz, hP, hK, hD0, -⟩ := hv
  have hx := B.exec
  have hb := B.bytes
  have hr := B.returns
  have htu : ∀ w ∈ CU, w.before _ s = true := fun w h => atoms_spec (ws := (wC yX5_typed cX5_typed 5 (some .int))) B.pre w (List.mem_cons_of_mem _ h)
  have hown : s.vm.findClass RX5 = some m.cls := findClass_of_methodNamed B.named
  have hlocks := B.notSynchronized
  subst hsz
  have hD : cD (cA G S s.heap.size) G S := cD_self hD0
  have hl := lv_entry ([.ref (ga G 4), .int (nI n9), .int (nI lv), .int (nI dp)]) (n := 5) (Nat.le_of_ble_eq_true rfl)
  rw [lg_entry_eq]
  generalize (lg_sl ([.ref (ga G 4), .int (nI n9), .int (nI lv), .int (nI dp)]) ++ List.replicate (5 - (lg_sl ([.ref (ga G 4), .int (nI n9), .int (nI lv), .int (nI dp)])).length) Slot.unset).toArray = ls at hl ⊢
  have hl : lv_has ls 5 [(0, .ref (ga G 4)), (1, .int (nI n9)), (2, .int (nI lv)), (3, .int (nI dp))] := hl
  obtain ⟨H, hHe⟩ : ∃ H : Heap, H = s.heap := ⟨_, rfl⟩
  rw [← hHe] at hP
  have hS : va_S (cA G S s.heap.size) s.heap H [] := by rw [hHe]; exact va_S.rf
  have hh : HS S S := HS.rf
  have hpp : PT S ≤ PT S := Nat.le_refl _
  have hB9 := hC.1
  refine W.heq hHe ?_
  refine c_ent (S := S) ?_
  obtain ⟨tT, tV, tB, tX⟩ := id hU.1.2.1
  refine lv_bipush (v := (-6)) hx hb dX5_typed_0 (by decide) ?_
  refine lv_istore (lv' := [(4, .int ((-6))), (0, .ref (ga G 4)), (1, .int (nI n9)), (2, .int (nI lv)), (3, .int (nI dp))]) hx hb dX5_typed_2 hl (by decide) rfl (fun ls hl => ?_)
  refine lv_iload_n hx hb dX5_typed_4 rfl (lv_at hl 4 rfl) ?_
  refine lv_bipush (v := 60) hx hb dX5_typed_5 (by decide) ?_
  refine lv_icmp_gt (tgt := 188) hx hb dX5_typed_7 (by decide) (fun c_1 => absurd c_1 (fun h => by have h2 := (nI_ltI (a := 60) (b := dp) (by omega) (by omega)).mp h; omega)) (fun c_1 => ?_)
  refine lv_aload_n hx hb dX5_typed_10 rfl (lv_at hl 1 rfl) ?_
  refine va_get (D := gD G) (ci := 5) (v := .ref (ga G 1)) (C := RX5) (T := TX5) (N := 15) hx hb htu cu_in5 hown hK hP 4 cw_4 rfl 0 (by decide) (htu _ C_60) (fun _ h9 => h9) rfl dX5_typed_11 ?_
  refine lv_iload_n hx hb dX5_typed_14 rfl (lv_at hl 2 rfl) ?_
  have hC0 := hC
  refine c_ci (c_runV (As := [.int (nI n9)]) (rest := []) (q0 := 1) (ci := 3) ⟨hx, hb, hml, hown, htu⟩ (tt_kindOf l G S N (nI n9) hC hT.1 H) (cwV 1 htu hU_X5_89 rfl rfl rfl (by decide +kernel) ⟨show 1 + 1 ≤ 2 * (fu + 1) + 140 by omega, show 8 + (2 + 11) + 21 ≤ 60 * (fu + 1) + 6500 by omega⟩) hP hK hD hC hpp cw_1 rfl rfl hl.1 rfl (lv_room (Nat.le_of_ble_eq_true rfl)) dX5_typed_15) hS hD hh hpp (fun r_2 S_3 H locs hw_4 hP hD hS hC hh hs_5 hpq => ?_)
  clear hpp
  have hpp := hpq
  clear hpq
  obtain ⟨-, hu9, hw_4⟩ := hw_4
  have hu9 := hu9.symm
  subst hu9
  have hkk : r_2 = nI (tr 0 n9) := hw_4.trans (hE.kind hn)
  have hk11 : tr 0 n9 ≤ 11 := (hE.2 n9 hn).2.2.2.2.2.1
  rcases (by omega : tr 0 n9 = 0 ∨ tr 0 n9 = 1 ∨ tr 0 n9 = 2 ∨ tr 0 n9 = 3 ∨ tr 0 n9 = 4 ∨ tr 0 n9 = 5 ∨ tr 0 n9 = 6 ∨ tr 0 n9 = 7 ∨ tr 0 n9 = 8 ∨ tr 0 n9 = 9 ∨ tr 0 n9 = 10 ∨ tr 0 n9 = 11) with hkd | hkd | hkd | hkd | hkd | hkd | hkd | hkd | hkd | hkd | hkd | hkd
  · skip
    rw [hkd] at hkk
    obtain rfl : r_2 = 0 := hkk
    refine lv_tableIn (tgt := 72) hx hb dX5_typed_18 (by decide) (by decide) (by rfl) (by decide) ?_
    refine lv_iconst (v := 0) hx hb dX5_typed_72 (by decide) ?_
    refine lv_istore (lv' := [(4, .int 0), (0, .ref (ga G 4)), (1, .int (nI n9)), (2, .int (nI lv)), (3, .int (nI dp))]) hx hb dX5_typed_73 hl (by decide) rfl (fun ls hl => ?_)
    refine lv_goto (tgt := 188) hx hb dX5_typed_75 (by decide) ?_
    refine lv_iload hx hb dX5_typed_188 (lv_at hl 0 rfl) ?_
    refine lv_if_ge (tgt := 207) hx hb dX5_typed_190 (by decide) (fun c_6 => ?_) (fun c_6 => absurd (by decide) c_6)
    refine lv_iload hx hb dX5_typed_207 (lv_at hl 0 rfl) ?_
    have yc0 := (⟨hz, hkq, hm0, h8, ⟨Nat.le_refl _, by omega, by omega⟩, fun _ _ => ⟨rfl, rfl⟩, hk2, fun _ => ⟨fun _ h => h, hgc⟩⟩ : YC S S Y tm (cntT tr (fu + 1) n9) gs z z tm gs)
    have er : ty tr top (fu + 1) z n9 lv = (z, 0) := ty_0 h0 hkd
    have hF : YE S S Y tm (cntT tr (fu + 1) n9) gs z (ty tr top (fu + 1) z n9 lv) 0 := by
      rw [er]
      exact ⟨⟨tm, gs, yc0⟩, fun _ => ⟨rfl, Nat.lt_of_lt_of_le (show (0 : Nat) < 2 by decide) hz.1.2.2.2.2.2.2.2.2.2.1, hU.2.1.trans (by rw [hzq]), h13⟩, fun h => absurd h0 h⟩
    exact c_iret (v := 0) hx hb hr hK hP hD hS hC hh hpp ⟨AW.rf, ⟨US.tx hU (by omega) _, hF⟩⟩ dX5_typed_209 hlocks
  · skip
    rw [hkd] at hkk
    obtain rfl : r_2 = 1 := hkk
    refine lv_tableIn (tgt := 78) hx hb dX5_typed_18 (by decide) (by decide) (by rfl) (by decide) ?_
    refine lv_iconst (v := 1) hx hb dX5_typed_78 (by decide) ?_
    refine lv_istore (lv' := [(4, .int 1), (0, .ref (ga G 4)), (1, .int (nI n9)), (2, .int (nI lv)), (3, .int (nI dp))]) hx hb dX5_typed_79 hl (by decide) rfl (fun ls hl => ?_)
    refine lv_goto (tgt := 188) hx hb dX5_typed_81 (by decide) ?_
    refine lv_iload hx hb dX5_typed_188 (lv_at hl 0 rfl) ?_
    refine lv_if_ge (tgt := 207) hx hb dX5_typed_190 (by decide) (fun c_7 => ?_) (fun c_7 => absurd (by decide) c_7)
    refine lv_iload hx hb dX5_typed_207 (lv_at hl 0 rfl) ?_
    have yc0 := (⟨hz, hkq, hm0, h8, ⟨Nat.le_refl _, by omega, by omega⟩, fun _ _ => ⟨rfl, rfl⟩, hk2, fun _ => ⟨fun _ h => h, hgc⟩⟩ : YC S S Y tm (cntT tr (fu + 1) n9) gs z z tm gs)
    have er : ty tr top (fu + 1) z n9 lv = (z, 1) := ty_1 h0 hkd
    have hF : YE S S Y tm (cntT tr (fu + 1) n9) gs z (ty tr top (fu + 1) z n9 lv) 1 := by
      rw [er]
      exact ⟨⟨tm, gs, yc0⟩, fun _ => ⟨rfl, Nat.lt_of_lt_of_le (show (1 : Nat) < 2 by decide) hz.1.2.2.2.2.2.2.2.2.2.1, hU.2.1.trans (by rw [hzq]), h13⟩, fun h => absurd h0 h⟩
    exact c_iret (v := 1) hx hb hr hK hP hD hS hC hh hpp ⟨AW.rf, ⟨US.tx hU (by omega) _, hF⟩⟩ dX5_typed_209 hlocks
  · skip
    rw [hkd] at hkk
    obtain rfl : r_2 = 2 := hkk
    refine lv_tableIn (tgt := 84) hx hb dX5_typed_18 (by decide) (by decide) (by rfl) (by decide) ?_
    refine lv_aload_n hx hb dX5_typed_84 rfl (lv_at hl 1 rfl) ?_
    refine lv_iload_n hx hb dX5_typed_85 rfl (lv_at hl 2 rfl) ?_
    refine lv_iload_n hx hb dX5_typed_86 rfl (lv_at hl 3 rfl) ?_
    have hC0 := hC
    refine c_ci (c_runV (As := [.int (nI n9), .int (nI lv)]) (rest := []) (q0 := 4) (ci := 5) ⟨hx, hb, hml, hown, htu⟩ (x_typedName l G S fu T V X Y Z q N dp lv tr mk rk top gs z n9 tm hC hU hq h15 hT hdp hlv hY2 hE hO hrk hn htp h11 hcv hz hkq hm0 h8 htm h0 hzq h13 hk2 hgc hkd H) (cwV 2 htu hU_X5_93 rfl rfl rfl (by decide +kernel) ⟨show (2 * fu + 141) + 1 ≤ 2 * (fu + 1) + 140 by omega, show 8 + (6 + 11) + (60 * fu + 6530) ≤ 60 * (fu + 1) + 6500 by omega⟩) hP hK hD hC hpp cw_4 rfl rfl hl.1 rfl (lv_room (Nat.le_of_ble_eq_true rfl)) dX5_typed_87) hS hD hh hpp (fun r_8 S_9 H locs hw_10 hP hD hS hC hh hs_11 hpq => ?_)
    clear hpp
    have hpp := hpq
    clear hpq
    try dsimp only at hw_10
    have aw_12 : AW [6, 7, 8, 9, 16, 14, 10, 11, 12, 13, 17, 18, 23, 24, 25, 26, 35] [8, 9, 10, 12, 13] S S_9 := hw_10.1
    have aw_12t : AW [6, 7, 8, 9, 16, 14, 10, 11, 12, 13, 17, 18, 23, 24, 25, 26, 35] [8, 9, 10, 12, 13] S S_9 := AW.rf.tr (aw_12.mono (by decide) (by decide))
    have kk_13 : kK S_9 15 = 0 := (aw_12.2.1 15 (lt35 (by decide)) (by decide)).2.trans h15
    have tj_14 : TJ S_9 N := TJ.aw hT aw_12 (by decide)
    obtain ⟨tx_15A, tx_15F⟩ := hw_10.2
    clear hw_10
    obtain ⟨⟨tx_15t, tx_15gs, tx_15yc⟩, tx_15g, tx_15b⟩ := tx_15F
    obtain ⟨tx_15R, tx_15e⟩ : ∃ R, ty tr top (fu + 1) z n9 lv = R := ⟨_, rfl⟩
    rw [tx_15e] at tx_15yc tx_15g tx_15b
    rcases Nat.eq_zero_or_pos (sto tx_15R.1) with tx_15z | tx_15z
    · skip
      obtain ⟨tx_15v, tx_15x, tx_1512, tx_1513⟩ := tx_15g tx_15z
      subst tx_15v
      have tx_156 := tx_15yc.1.1.2.2.2.2.2.2.2.1
      refine lv_istore (lv' := [(4, .int (nI tx_15R.2)), (0, .ref (ga G 4)), (1, .int (nI n9)), (2, .int (nI lv)), (3, .int (nI dp))]) hx hb dX5_typed_90 hl (by decide) rfl (fun ls hl => ?_)
      refine lv_goto (tgt := 188) hx hb dX5_typed_92 (by decide) ?_
      refine lv_iload hx hb dX5_typed_188 (lv_at hl 0 rfl) ?_
      refine lv_if_ge (tgt := 207) hx hb dX5_typed_190 (by decide) (fun c_16 => ?_) (fun c_16 => absurd (Int32.not_lt.mp (nI_n0 (by omega))) c_16)
      refine lv_iload hx hb dX5_typed_207 (lv_at hl 0 rfl) ?_
      exact c_iret (v := nI tx_15R.2) hx hb hr hK hP hD hS hC hh hpp ⟨aw_12t, ⟨tx_15A, by rw [tx_15e]; exact ⟨⟨tx_15t, tx_15gs, tx_15yc⟩, fun _ => ⟨rfl, tx_15x, tx_1512, tx_1513⟩, fun h => absurd tx_15z h⟩⟩⟩ dX5_typed_209 hlocks
    · skip
      have tx_15zz : sto tx_15R.1 ≠ 0 := Nat.ne_of_gt tx_15z
      obtain ⟨tx_15v, tx_15p⟩ := tx_15b tx_15zz
      have tx_15ng : r_8 < 0 := by rw [tx_15v]; exact sc_neg tx_15zz
      rcases tx_15p with ⟨tx_15p, tx_15p1, tx_15p2, tx_15p3⟩ | ⟨tx_15p2, tx_15p3⟩
      · skip
        refine lv_istore (lv' := [(4, .int r_8), (0, .ref (ga G 4)), (1, .int (nI n9)), (2, .int (nI lv)), (3, .int (nI dp))]) hx hb dX5_typed_90 hl (by decide) rfl (fun ls hl => ?_)
        refine lv_goto (tgt := 188) hx hb dX5_typed_92 (by decide) ?_
        refine lv_iload hx hb dX5_typed_188 (lv_at hl 0 rfl) ?_
        refine lv_if_ge (tgt := 207) hx hb dX5_typed_190 (by decide) (fun c_17 => absurd c_17 (Int32.not_le.mpr tx_15ng)) (fun c_17 => ?_)
        refine lv_aload_n hx hb dX5_typed_193 rfl (lv_at hl 1 rfl) ?_
        refine va_get (D := gD G) (ci := 5) (v := .int (nI tx_15p)) (C := RX5) (T := TX5) (N := 15) hx hb htu cu_in5 hown hK hP 4 cw_4 rfl 13 (by decide) (htu _ C_58) (fun _ h9 => h9) (m_v tx_15p2) dX5_typed_194 ?_
        refine lv_bipush (v := (-9)) hx hb dX5_typed_197 (by decide) ?_
        refine lv_icmp_ne (tgt := 207) hx hb dX5_typed_199 (by decide) (fun c_18 => ?_) (fun c_18 => absurd c_18 (nI_neg (by decide) (by omega)))
        refine lv_iload hx hb dX5_typed_207 (lv_at hl 0 rfl) ?_
        exact c_iret (v := r_8) hx hb hr hK hP hD hS hC hh hpp ⟨aw_12t, ⟨tx_15A, by rw [tx_15e]; exact ⟨⟨tx_15t, tx_15gs, tx_15yc⟩, fun h => absurd h tx_15zz, fun _ => ⟨tx_15v, tx_15p, tx_15p1, tx_15p2, tx_15p3⟩⟩⟩⟩ dX5_typed_209 hlocks
      · skip
        refine lv_istore (lv' := [(4, .int r_8), (0, .ref (ga G 4)), (1, .int (nI n9)), (2, .int (nI lv)), (3, .int (nI dp))]) hx hb dX5_typed_90 hl (by decide) rfl (fun ls hl => ?_)
        refine lv_goto (tgt := 188) hx hb dX5_typed_92 (by decide) ?_
        refine lv_iload hx hb dX5_typed_188 (lv_at hl 0 rfl) ?_
        refine lv_if_ge (tgt := 207) hx hb dX5_typed_190 (by decide) (fun c_19 => absurd c_19 (Int32.not_le.mpr tx_15ng)) (fun c_19 => ?_)
        refine lv_aload_n hx hb dX5_typed_193 rfl (lv_at hl 1 rfl) ?_
        refine va_get (D := gD G) (ci := 5) (v := .int ((-9))) (C := RX5) (T := TX5) (N := 15) hx hb htu cu_in5 hown hK hP 4 cw_4 rfl 13 (by decide) (htu _ C_58) (fun _ h9 => h9) (m_v tx_15p2) dX5_typed_194 ?_
        refine lv_bipush (v := (-9)) hx hb dX5_typed_197 (by decide) ?_
        refine lv_icmp_ne (tgt := 207) hx hb dX5_typed_199 (by decide) (fun c_20 => absurd (by decide) c_20) (fun c_20 => ?_)
        refine lv_aload_n hx hb dX5_typed_202 rfl (lv_at hl 1 rfl) ?_
        refine lv_iload_n hx hb dX5_typed_203 rfl (lv_at hl 2 rfl) ?_
        refine c_put4_13 (x := (nI n9)) hx hb htu hown hK hP hD hS (htu _ C_58) dX5_typed_204 (fun H locs hP hD hS => ?_)
        have S_21h : HS S (cO S_9 13 (nI n9)) := hh
        have S_21c : CL (cO S_9 13 (nI n9)) := hC
        have S_21p : PT S ≤ PT (cO S_9 13 (nI n9)) := hpp
        refine c_eq (S1 := S_9) (S2 := cO S_9 13 (nI n9)) rfl ?_
        have S_21w : AW [6, 7, 8, 9, 16, 14, 10, 11, 12, 13, 17, 18, 23, 24, 25, 26, 35] [8, 9, 10, 12, 13] S (cO S_9 13 (nI n9)) := (AW.o aw_12t (by decide))
        have hh := S_21h
        have hC := S_21c
        clear hpp
        have hpp := S_21p
        clear S_21p
        have tj_22 : TJ (cO S_9 13 (nI n9)) N := tj_14
        refine lv_iload hx hb dX5_typed_207 (lv_at hl 0 rfl) ?_
        exact c_iret (v := r_8) hx hb hr hK hP hD hS hC hh hpp ⟨S_21w, ⟨TX.o13 tx_15A, by rw [tx_15e]; exact ⟨⟨tx_15t, tx_15gs, yc_o13 tx_15yc⟩, fun h => absurd h tx_15zz, fun _ => ⟨tx_15v, n9, Nat.lt_of_lt_of_le hn hT.1.1, cO_s, tx_15p3⟩⟩⟩⟩ dX5_typed_209 hlocks
  · skip
    rw [hkd] at hkk
    obtain rfl : r_2 = 3 := hkk
    refine lv_tableIn (tgt := 95) hx hb dX5_typed_18 (by decide) (by decide) (by rfl) (by decide) ?_
    refine lv_aload_n hx hb dX5_typed_95 rfl (lv_at hl 1 rfl) ?_
    refine lv_iload_n hx hb dX5_typed_96 rfl (lv_at hl 2 rfl) ?_
    refine lv_iload_n hx hb dX5_typed_97 rfl (lv_at hl 3 rfl) ?_
    refine lv_iload_n hx hb dX5_typed_98 rfl (lv_at hl 4 rfl) ?_
    have hC0 := hC
    refine c_ci (c_runV (As := [.int (nI n9), .int (nI lv), .int (nI dp)]) (rest := []) (q0 := 4) (ci := 5) ⟨hx, hb, hml, hown, htu⟩ (x_typedFunction l G S fu T V X Y Z q N dp lv tr mk rk top gs z n9 tm hC ih hU hq h15 hT hdp hlv hY2 hE hO hrk hn htp h11 hcv hz hkq hm0 h8 htm h0 hzq h13 hk2 hgc hkd H) (cwV 3 htu hU_X5_97 rfl rfl rfl (by decide +kernel) ⟨show (2 * fu + 141) + 1 ≤ 2 * (fu + 1) + 140 by omega, show 8 + (6 + 11) + (60 * fu + 6530) ≤ 60 * (fu + 1) + 6500 by omega⟩) hP hK hD hC hpp cw_4 rfl rfl hl.1 rfl (lv_room (Nat.le_of_ble_eq_true rfl)) dX5_typed_99) hS hD hh hpp (fun r_23 S_24 H locs hw_25 hP hD hS hC hh hs_26 hpq => ?_)
    clear hpp
    have hpp := hpq
    clear hpq
    try dsimp only at hw_25
    have aw_27 : AW [6, 7, 8, 9, 16, 14, 10, 11, 12, 13, 17, 18, 23, 24, 25, 26, 35] [8, 9, 10, 12, 13] S S_24 := hw_25.1
    have aw_27t : AW [6, 7, 8, 9, 16, 14, 10, 11, 12, 13, 17, 18, 23, 24, 25, 26, 35] [8, 9, 10, 12, 13] S S_24 := AW.rf.tr (aw_27.mono (by decide) (by decide))
    have kk_28 : kK S_24 15 = 0 := (aw_27.2.1 15 (lt35 (by decide)) (by decide)).2.trans h15
    have tj_29 : TJ S_24 N := TJ.aw hT aw_27 (by decide)
    obtain ⟨tx_30A, tx_30F⟩ := hw_25.2
    clear hw_25
    obtain ⟨⟨tx_30t, tx_30gs, tx_30yc⟩, tx_30g, tx_30b⟩ := tx_30F
    obtain ⟨tx_30R, tx_30e⟩ : ∃ R, ty tr top (fu + 1) z n9 lv = R := ⟨_, rfl⟩
    rw [tx_30e] at tx_30yc tx_30g tx_30b
    rcases Nat.eq_zero_or_pos (sto tx_30R.1) with tx_30z | tx_30z
    · skip
      obtain ⟨tx_30v, tx_30x, tx_3012, tx_3013⟩ := tx_30g tx_30z
      subst tx_30v
      have tx_306 := tx_30yc.1.1.2.2.2.2.2.2.2.1
      refine lv_istore (lv' := [(4, .int (nI tx_30R.2)), (0, .ref (ga G 4)), (1, .int (nI n9)), (2, .int (nI lv)), (3, .int (nI dp))]) hx hb dX5_typed_102 hl (by decide) rfl (fun ls hl => ?_)
      refine lv_goto (tgt := 188) hx hb dX5_typed_104 (by decide) ?_
      refine lv_iload hx hb dX5_typed_188 (lv_at hl 0 rfl) ?_
      refine lv_if_ge (tgt := 207) hx hb dX5_typed_190 (by decide) (fun c_31 => ?_) (fun c_31 => absurd (Int32.not_lt.mp (nI_n0 (by omega))) c_31)
      refine lv_iload hx hb dX5_typed_207 (lv_at hl 0 rfl) ?_
      exact c_iret (v := nI tx_30R.2) hx hb hr hK hP hD hS hC hh hpp ⟨aw_27t, ⟨tx_30A, by rw [tx_30e]; exact ⟨⟨tx_30t, tx_30gs, tx_30yc⟩, fun _ => ⟨rfl, tx_30x, tx_3012, tx_3013⟩, fun h => absurd tx_30z h⟩⟩⟩ dX5_typed_209 hlocks
    · skip
      have tx_30zz : sto tx_30R.1 ≠ 0 := Nat.ne_of_gt tx_30z
      obtain ⟨tx_30v, tx_30p⟩ := tx_30b tx_30zz
      have tx_30ng : r_23 < 0 := by rw [tx_30v]; exact sc_neg tx_30zz
      rcases tx_30p with ⟨tx_30p, tx_30p1, tx_30p2, tx_30p3⟩ | ⟨tx_30p2, tx_30p3⟩
      · skip
        refine lv_istore (lv' := [(4, .int r_23), (0, .ref (ga G 4)), (1, .int (nI n9)), (2, .int (nI lv)), (3, .int (nI dp))]) hx hb dX5_typed_102 hl (by decide) rfl (fun ls hl => ?_)
        refine lv_goto (tgt := 188) hx hb dX5_typed_104 (by decide) ?_
        refine lv_iload hx hb dX5_typed_188 (lv_at hl 0 rfl) ?_
        refine lv_if_ge (tgt := 207) hx hb dX5_typed_190 (by decide) (fun c_32 => absurd c_32 (Int32.not_le.mpr tx_30ng)) (fun c_32 => ?_)
        refine lv_aload_n hx hb dX5_typed_193 rfl (lv_at hl 1 rfl) ?_
        refine va_get (D := gD G) (ci := 5) (v := .int (nI tx_30p)) (C := RX5) (T := TX5) (N := 15) hx hb htu cu_in5 hown hK hP 4 cw_4 rfl 13 (by decide) (htu _ C_58) (fun _ h9 => h9) (m_v tx_30p2) dX5_typed_194 ?_
        refine lv_bipush (v := (-9)) hx hb dX5_typed_197 (by decide) ?_
        refine lv_icmp_ne (tgt := 207) hx hb dX5_typed_199 (by decide) (fun c_33 => ?_) (fun c_33 => absurd c_33 (nI_neg (by decide) (by omega)))
        refine lv_iload hx hb dX5_typed_207 (lv_at hl 0 rfl) ?_
        exact c_iret (v := r_23) hx hb hr hK hP hD hS hC hh hpp ⟨aw_27t, ⟨tx_30A, by rw [tx_30e]; exact ⟨⟨tx_30t, tx_30gs, tx_30yc⟩, fun h => absurd h tx_30zz, fun _ => ⟨tx_30v, tx_30p, tx_30p1, tx_30p2, tx_30p3⟩⟩⟩⟩ dX5_typed_209 hlocks
      · skip
        refine lv_istore (lv' := [(4, .int r_23), (0, .ref (ga G 4)), (1, .int (nI n9)), (2, .int (nI lv)), (3, .int (nI dp))]) hx hb dX5_typed_102 hl (by decide) rfl (fun ls hl => ?_)
        refine lv_goto (tgt := 188) hx hb dX5_typed_104 (by decide) ?_
        refine lv_iload hx hb dX5_typed_188 (lv_at hl 0 rfl) ?_
        refine lv_if_ge (tgt := 207) hx hb dX5_typed_190 (by decide) (fun c_34 => absurd c_34 (Int32.not_le.mpr tx_30ng)) (fun c_34 => ?_)
        refine lv_aload_n hx hb dX5_typed_193 rfl (lv_at hl 1 rfl) ?_
        refine va_get (D := gD G) (ci := 5) (v := .int ((-9))) (C := RX5) (T := TX5) (N := 15) hx hb htu cu_in5 hown hK hP 4 cw_4 rfl 13 (by decide) (htu _ C_58) (fun _ h9 => h9) (m_v tx_30p2) dX5_typed_194 ?_
        refine lv_bipush (v := (-9)) hx hb dX5_typed_197 (by decide) ?_
        refine lv_icmp_ne (tgt := 207) hx hb dX5_typed_199 (by decide) (fun c_35 => absurd (by decide) c_35) (fun c_35 => ?_)
        refine lv_aload_n hx hb dX5_typed_202 rfl (lv_at hl 1 rfl) ?_
        refine lv_iload_n hx hb dX5_typed_203 rfl (lv_at hl 2 rfl) ?_
        refine c_put4_13 (x := (nI n9)) hx hb htu hown hK hP hD hS (htu _ C_58) dX5_typed_204 (fun H locs hP hD hS => ?_)
        have S_36h : HS S (cO S_24 13 (nI n9)) := hh
        have S_36c : CL (cO S_24 13 (nI n9)) := hC
        have S_36p : PT S ≤ PT (cO S_24 13 (nI n9)) := hpp
        refine c_eq (S1 := S_24) (S2 := cO S_24 13 (nI n9)) rfl ?_
        have S_36w : AW [6, 7, 8, 9, 16, 14, 10, 11, 12, 13, 17, 18, 23, 24, 25, 26, 35] [8, 9, 10, 12, 13] S (cO S_24 13 (nI n9)) := (AW.o aw_27t (by decide))
        have hh := S_36h
        have hC := S_36c
        clear hpp
        have hpp := S_36p
        clear S_36p
        have tj_37 : TJ (cO S_24 13 (nI n9)) N := tj_29
        refine lv_iload hx hb dX5_typed_207 (lv_at hl 0 rfl) ?_
        exact c_iret (v := r_23) hx hb hr hK hP hD hS hC hh hpp ⟨S_36w, ⟨TX.o13 tx_30A, by rw [tx_30e]; exact ⟨⟨tx_30t, tx_30gs, yc_o13 tx_30yc⟩, fun h => absurd h tx_30zz, fun _ => ⟨tx_30v, n9, Nat.lt_of_lt_of_le hn hT.1.1, cO_s, tx_30p3⟩⟩⟩⟩ dX5_typed_209 hlocks
  · skip
    rw [hkd] at hkk
    obtain rfl : r_2 = 4 := hkk
    refine lv_tableIn (tgt := 107) hx hb dX5_typed_18 (by decide) (by decide) (by rfl) (by decide) ?_
    refine lv_aload_n hx hb dX5_typed_107 rfl (lv_at hl 1 rfl) ?_
    refine lv_iload_n hx hb dX5_typed_108 rfl (lv_at hl 2 rfl) ?_
    refine lv_iload_n hx hb dX5_typed_109 rfl (lv_at hl 3 rfl) ?_
    refine lv_iload_n hx hb dX5_typed_110 rfl (lv_at hl 4 rfl) ?_
    have hC0 := hC
    refine c_ci (c_runV (As := [.int (nI n9), .int (nI lv), .int (nI dp)]) (rest := []) (q0 := 4) (ci := 5) ⟨hx, hb, hml, hown, htu⟩ (x_typedApply l G S fu T V X Y Z q N dp lv tr mk rk top gs z n9 tm hC ih hU hq h15 hT hdp hlv hY2 hE hO hrk hn htp h11 hcv hz hkq hm0 h8 htm h0 hzq h13 hk2 hgc hkd H) (cwV 3 htu hU_X5_100 rfl rfl rfl (by decide +kernel) ⟨show (2 * fu + 141) + 1 ≤ 2 * (fu + 1) + 140 by omega, show 8 + (9 + 11) + (60 * fu + 6530) ≤ 60 * (fu + 1) + 6500 by omega⟩) hP hK hD hC hpp cw_4 rfl rfl hl.1 rfl (lv_room (Nat.le_of_ble_eq_true rfl)) dX5_typed_111) hS hD hh hpp (fun r_38 S_39 H locs hw_40 hP hD hS hC hh hs_41 hpq => ?_)
    clear hpp
    have hpp := hpq
    clear hpq
    try dsimp only at hw_40
    have aw_42 : AW [6, 7, 8, 9, 16, 14, 10, 11, 12, 13, 17, 18, 23, 24, 25, 26, 35] [8, 9, 10, 12, 13] S S_39 := hw_40.1
    have aw_42t : AW [6, 7, 8, 9, 16, 14, 10, 11, 12, 13, 17, 18, 23, 24, 25, 26, 35] [8, 9, 10, 12, 13] S S_39 := AW.rf.tr (aw_42.mono (by decide) (by decide))
    have kk_43 : kK S_39 15 = 0 := (aw_42.2.1 15 (lt35 (by decide)) (by decide)).2.trans h15
    have tj_44 : TJ S_39 N := TJ.aw hT aw_42 (by decide)
    obtain ⟨tx_45A, tx_45F⟩ := hw_40.2
    clear hw_40
    obtain ⟨⟨tx_45t, tx_45gs, tx_45yc⟩, tx_45g, tx_45b⟩ := tx_45F
    obtain ⟨tx_45R, tx_45e⟩ : ∃ R, ty tr top (fu + 1) z n9 lv = R := ⟨_, rfl⟩
    rw [tx_45e] at tx_45yc tx_45g tx_45b
    rcases Nat.eq_zero_or_pos (sto tx_45R.1) with tx_45z | tx_45z
    · skip
      obtain ⟨tx_45v, tx_45x, tx_4512, tx_4513⟩ := tx_45g tx_45z
      subst tx_45v
      have tx_456 := tx_45yc.1.1.2.2.2.2.2.2.2.1
      refine lv_istore (lv' := [(4, .int (nI tx_45R.2)), (0, .ref (ga G 4)), (1, .int (nI n9)), (2, .int (nI lv)), (3, .int (nI dp))]) hx hb dX5_typed_114 hl (by decide) rfl (fun ls hl => ?_)
      refine lv_goto (tgt := 188) hx hb dX5_typed_116 (by decide) ?_
      refine lv_iload hx hb dX5_typed_188 (lv_at hl 0 rfl) ?_
      refine lv_if_ge (tgt := 207) hx hb dX5_typed_190 (by decide) (fun c_46 => ?_) (fun c_46 => absurd (Int32.not_lt.mp (nI_n0 (by omega))) c_46)
      refine lv_iload hx hb dX5_typed_207 (lv_at hl 0 rfl) ?_
      exact c_iret (v := nI tx_45R.2) hx hb hr hK hP hD hS hC hh hpp ⟨aw_42t, ⟨tx_45A, by rw [tx_45e]; exact ⟨⟨tx_45t, tx_45gs, tx_45yc⟩, fun _ => ⟨rfl, tx_45x, tx_4512, tx_4513⟩, fun h => absurd tx_45z h⟩⟩⟩ dX5_typed_209 hlocks
    · skip
      have tx_45zz : sto tx_45R.1 ≠ 0 := Nat.ne_of_gt tx_45z
      obtain ⟨tx_45v, tx_45p⟩ := tx_45b tx_45zz
      have tx_45ng : r_38 < 0 := by rw [tx_45v]; exact sc_neg tx_45zz
      rcases tx_45p with ⟨tx_45p, tx_45p1, tx_45p2, tx_45p3⟩ | ⟨tx_45p2, tx_45p3⟩
      · skip
        refine lv_istore (lv' := [(4, .int r_38), (0, .ref (ga G 4)), (1, .int (nI n9)), (2, .int (nI lv)), (3, .int (nI dp))]) hx hb dX5_typed_114 hl (by decide) rfl (fun ls hl => ?_)
        refine lv_goto (tgt := 188) hx hb dX5_typed_116 (by decide) ?_
        refine lv_iload hx hb dX5_typed_188 (lv_at hl 0 rfl) ?_
        refine lv_if_ge (tgt := 207) hx hb dX5_typed_190 (by decide) (fun c_47 => absurd c_47 (Int32.not_le.mpr tx_45ng)) (fun c_47 => ?_)
        refine lv_aload_n hx hb dX5_typed_193 rfl (lv_at hl 1 rfl) ?_
        refine va_get (D := gD G) (ci := 5) (v := .int (nI tx_45p)) (C := RX5) (T := TX5) (N := 15) hx hb htu cu_in5 hown hK hP 4 cw_4 rfl 13 (by decide) (htu _ C_58) (fun _ h9 => h9) (m_v tx_45p2) dX5_typed_194 ?_
        refine lv_bipush (v := (-9)) hx hb dX5_typed_197 (by decide) ?_
        refine lv_icmp_ne (tgt := 207) hx hb dX5_typed_199 (by decide) (fun c_48 => ?_) (fun c_48 => absurd c_48 (nI_neg (by decide) (by omega)))
        refine lv_iload hx hb dX5_typed_207 (lv_at hl 0 rfl) ?_
        exact c_iret (v := r_38) hx hb hr hK hP hD hS hC hh hpp ⟨aw_42t, ⟨tx_45A, by rw [tx_45e]; exact ⟨⟨tx_45t, tx_45gs, tx_45yc⟩, fun h => absurd h tx_45zz, fun _ => ⟨tx_45v, tx_45p, tx_45p1, tx_45p2, tx_45p3⟩⟩⟩⟩ dX5_typed_209 hlocks
      · skip
        refine lv_istore (lv' := [(4, .int r_38), (0, .ref (ga G 4)), (1, .int (nI n9)), (2, .int (nI lv)), (3, .int (nI dp))]) hx hb dX5_typed_114 hl (by decide) rfl (fun ls hl => ?_)
        refine lv_goto (tgt := 188) hx hb dX5_typed_116 (by decide) ?_
        refine lv_iload hx hb dX5_typed_188 (lv_at hl 0 rfl) ?_
        refine lv_if_ge (tgt := 207) hx hb dX5_typed_190 (by decide) (fun c_49 => absurd c_49 (Int32.not_le.mpr tx_45ng)) (fun c_49 => ?_)
        refine lv_aload_n hx hb dX5_typed_193 rfl (lv_at hl 1 rfl) ?_
        refine va_get (D := gD G) (ci := 5) (v := .int ((-9))) (C := RX5) (T := TX5) (N := 15) hx hb htu cu_in5 hown hK hP 4 cw_4 rfl 13 (by decide) (htu _ C_58) (fun _ h9 => h9) (m_v tx_45p2) dX5_typed_194 ?_
        refine lv_bipush (v := (-9)) hx hb dX5_typed_197 (by decide) ?_
        refine lv_icmp_ne (tgt := 207) hx hb dX5_typed_199 (by decide) (fun c_50 => absurd (by decide) c_50) (fun c_50 => ?_)
        refine lv_aload_n hx hb dX5_typed_202 rfl (lv_at hl 1 rfl) ?_
        refine lv_iload_n hx hb dX5_typed_203 rfl (lv_at hl 2 rfl) ?_
        refine c_put4_13 (x := (nI n9)) hx hb htu hown hK hP hD hS (htu _ C_58) dX5_typed_204 (fun H locs hP hD hS => ?_)
        have S_51h : HS S (cO S_39 13 (nI n9)) := hh
        have S_51c : CL (cO S_39 13 (nI n9)) := hC
        have S_51p : PT S ≤ PT (cO S_39 13 (nI n9)) := hpp
        refine c_eq (S1 := S_39) (S2 := cO S_39 13 (nI n9)) rfl ?_
        have S_51w : AW [6, 7, 8, 9, 16, 14, 10, 11, 12, 13, 17, 18, 23, 24, 25, 26, 35] [8, 9, 10, 12, 13] S (cO S_39 13 (nI n9)) := (AW.o aw_42t (by decide))
        have hh := S_51h
        have hC := S_51c
        clear hpp
        have hpp := S_51p
        clear S_51p
        have tj_52 : TJ (cO S_39 13 (nI n9)) N := tj_44
        refine lv_iload hx hb dX5_typed_207 (lv_at hl 0 rfl) ?_
        exact c_iret (v := r_38) hx hb hr hK hP hD hS hC hh hpp ⟨S_51w, ⟨TX.o13 tx_45A, by rw [tx_45e]; exact ⟨⟨tx_45t, tx_45gs, yc_o13 tx_45yc⟩, fun h => absurd h tx_45zz, fun _ => ⟨tx_45v, n9, Nat.lt_of_lt_of_le hn hT.1.1, cO_s, tx_45p3⟩⟩⟩⟩ dX5_typed_209 hlocks
  · skip
    rw [hkd] at hkk
    obtain rfl : r_2 = 5 := hkk
    refine lv_tableIn (tgt := 119) hx hb dX5_typed_18 (by decide) (by decide) (by rfl) (by decide) ?_
    refine lv_aload_n hx hb dX5_typed_119 rfl (lv_at hl 1 rfl) ?_
    refine lv_iload_n hx hb dX5_typed_120 rfl (lv_at hl 2 rfl) ?_
    refine lv_iload_n hx hb dX5_typed_121 rfl (lv_at hl 3 rfl) ?_
    refine lv_iload_n hx hb dX5_typed_122 rfl (lv_at hl 4 rfl) ?_
    have hC0 := hC
    refine c_ci (c_runV (As := [.int (nI n9), .int (nI lv), .int (nI dp)]) (rest := []) (q0 := 4) (ci := 5) ⟨hx, hb, hml, hown, htu⟩ (x_typedRecord l G S fu T V X Y Z q N dp lv tr mk rk top gs z n9 tm hC ih hU hq h15 hT hdp hlv hY2 hE hO hrk hn htp h11 hcv hz hkq hm0 h8 htm h0 hzq h13 hk2 hgc hkd H) (cwV 3 htu hU_X5_103 rfl rfl rfl (by decide +kernel) ⟨show (2 * fu + 141) + 1 ≤ 2 * (fu + 1) + 140 by omega, show 8 + (8 + 11) + (60 * fu + 6530) ≤ 60 * (fu + 1) + 6500 by omega⟩) hP hK hD hC hpp cw_4 rfl rfl hl.1 rfl (lv_room (Nat.le_of_ble_eq_true rfl)) dX5_typed_123) hS hD hh hpp (fun r_53 S_54 H locs hw_55 hP hD hS hC hh hs_56 hpq => ?_)
    clear hpp
    have hpp := hpq
    clear hpq
    try dsimp only at hw_55
    have aw_57 : AW [6, 7, 8, 9, 16, 14, 10, 11, 12, 13, 17, 18, 23, 24, 25, 26, 35] [8, 9, 10, 12, 13] S S_54 := hw_55.1
    have aw_57t : AW [6, 7, 8, 9, 16, 14, 10, 11, 12, 13, 17, 18, 23, 24, 25, 26, 35] [8, 9, 10, 12, 13] S S_54 := AW.rf.tr (aw_57.mono (by decide) (by decide))
    have kk_58 : kK S_54 15 = 0 := (aw_57.2.1 15 (lt35 (by decide)) (by decide)).2.trans h15
    have tj_59 : TJ S_54 N := TJ.aw hT aw_57 (by decide)
    obtain ⟨tx_60A, tx_60F⟩ := hw_55.2
    clear hw_55
    obtain ⟨⟨tx_60t, tx_60gs, tx_60yc⟩, tx_60g, tx_60b⟩ := tx_60F
    obtain ⟨tx_60R, tx_60e⟩ : ∃ R, ty tr top (fu + 1) z n9 lv = R := ⟨_, rfl⟩
    rw [tx_60e] at tx_60yc tx_60g tx_60b
    rcases Nat.eq_zero_or_pos (sto tx_60R.1) with tx_60z | tx_60z
    · skip
      obtain ⟨tx_60v, tx_60x, tx_6012, tx_6013⟩ := tx_60g tx_60z
      subst tx_60v
      have tx_606 := tx_60yc.1.1.2.2.2.2.2.2.2.1
      refine lv_istore (lv' := [(4, .int (nI tx_60R.2)), (0, .ref (ga G 4)), (1, .int (nI n9)), (2, .int (nI lv)), (3, .int (nI dp))]) hx hb dX5_typed_126 hl (by decide) rfl (fun ls hl => ?_)
      refine lv_goto (tgt := 188) hx hb dX5_typed_128 (by decide) ?_
      refine lv_iload hx hb dX5_typed_188 (lv_at hl 0 rfl) ?_
      refine lv_if_ge (tgt := 207) hx hb dX5_typed_190 (by decide) (fun c_61 => ?_) (fun c_61 => absurd (Int32.not_lt.mp (nI_n0 (by omega))) c_61)
      refine lv_iload hx hb dX5_typed_207 (lv_at hl 0 rfl) ?_
      exact c_iret (v := nI tx_60R.2) hx hb hr hK hP hD hS hC hh hpp ⟨aw_57t, ⟨tx_60A, by rw [tx_60e]; exact ⟨⟨tx_60t, tx_60gs, tx_60yc⟩, fun _ => ⟨rfl, tx_60x, tx_6012, tx_6013⟩, fun h => absurd tx_60z h⟩⟩⟩ dX5_typed_209 hlocks
    · skip
      have tx_60zz : sto tx_60R.1 ≠ 0 := Nat.ne_of_gt tx_60z
      obtain ⟨tx_60v, tx_60p⟩ := tx_60b tx_60zz
      have tx_60ng : r_53 < 0 := by rw [tx_60v]; exact sc_neg tx_60zz
      rcases tx_60p with ⟨tx_60p, tx_60p1, tx_60p2, tx_60p3⟩ | ⟨tx_60p2, tx_60p3⟩
      · skip
        refine lv_istore (lv' := [(4, .int r_53), (0, .ref (ga G 4)), (1, .int (nI n9)), (2, .int (nI lv)), (3, .int (nI dp))]) hx hb dX5_typed_126 hl (by decide) rfl (fun ls hl => ?_)
        refine lv_goto (tgt := 188) hx hb dX5_typed_128 (by decide) ?_
        refine lv_iload hx hb dX5_typed_188 (lv_at hl 0 rfl) ?_
        refine lv_if_ge (tgt := 207) hx hb dX5_typed_190 (by decide) (fun c_62 => absurd c_62 (Int32.not_le.mpr tx_60ng)) (fun c_62 => ?_)
        refine lv_aload_n hx hb dX5_typed_193 rfl (lv_at hl 1 rfl) ?_
        refine va_get (D := gD G) (ci := 5) (v := .int (nI tx_60p)) (C := RX5) (T := TX5) (N := 15) hx hb htu cu_in5 hown hK hP 4 cw_4 rfl 13 (by decide) (htu _ C_58) (fun _ h9 => h9) (m_v tx_60p2) dX5_typed_194 ?_
        refine lv_bipush (v := (-9)) hx hb dX5_typed_197 (by decide) ?_
        refine lv_icmp_ne (tgt := 207) hx hb dX5_typed_199 (by decide) (fun c_63 => ?_) (fun c_63 => absurd c_63 (nI_neg (by decide) (by omega)))
        refine lv_iload hx hb dX5_typed_207 (lv_at hl 0 rfl) ?_
        exact c_iret (v := r_53) hx hb hr hK hP hD hS hC hh hpp ⟨aw_57t, ⟨tx_60A, by rw [tx_60e]; exact ⟨⟨tx_60t, tx_60gs, tx_60yc⟩, fun h => absurd h tx_60zz, fun _ => ⟨tx_60v, tx_60p, tx_60p1, tx_60p2, tx_60p3⟩⟩⟩⟩ dX5_typed_209 hlocks
      · skip
        refine lv_istore (lv' := [(4, .int r_53), (0, .ref (ga G 4)), (1, .int (nI n9)), (2, .int (nI lv)), (3, .int (nI dp))]) hx hb dX5_typed_126 hl (by decide) rfl (fun ls hl => ?_)
        refine lv_goto (tgt := 188) hx hb dX5_typed_128 (by decide) ?_
        refine lv_iload hx hb dX5_typed_188 (lv_at hl 0 rfl) ?_
        refine lv_if_ge (tgt := 207) hx hb dX5_typed_190 (by decide) (fun c_64 => absurd c_64 (Int32.not_le.mpr tx_60ng)) (fun c_64 => ?_)
        refine lv_aload_n hx hb dX5_typed_193 rfl (lv_at hl 1 rfl) ?_
        refine va_get (D := gD G) (ci := 5) (v := .int ((-9))) (C := RX5) (T := TX5) (N := 15) hx hb htu cu_in5 hown hK hP 4 cw_4 rfl 13 (by decide) (htu _ C_58) (fun _ h9 => h9) (m_v tx_60p2) dX5_typed_194 ?_
        refine lv_bipush (v := (-9)) hx hb dX5_typed_197 (by decide) ?_
        refine lv_icmp_ne (tgt := 207) hx hb dX5_typed_199 (by decide) (fun c_65 => absurd (by decide) c_65) (fun c_65 => ?_)
        refine lv_aload_n hx hb dX5_typed_202 rfl (lv_at hl 1 rfl) ?_
        refine lv_iload_n hx hb dX5_typed_203 rfl (lv_at hl 2 rfl) ?_
        refine c_put4_13 (x := (nI n9)) hx hb htu hown hK hP hD hS (htu _ C_58) dX5_typed_204 (fun H locs hP hD hS => ?_)
        have S_66h : HS S (cO S_54 13 (nI n9)) := hh
        have S_66c : CL (cO S_54 13 (nI n9)) := hC
        have S_66p : PT S ≤ PT (cO S_54 13 (nI n9)) := hpp
        refine c_eq (S1 := S_54) (S2 := cO S_54 13 (nI n9)) rfl ?_
        have S_66w : AW [6, 7, 8, 9, 16, 14, 10, 11, 12, 13, 17, 18, 23, 24, 25, 26, 35] [8, 9, 10, 12, 13] S (cO S_54 13 (nI n9)) := (AW.o aw_57t (by decide))
        have hh := S_66h
        have hC := S_66c
        clear hpp
        have hpp := S_66p
        clear S_66p
        have tj_67 : TJ (cO S_54 13 (nI n9)) N := tj_59
        refine lv_iload hx hb dX5_typed_207 (lv_at hl 0 rfl) ?_
        exact c_iret (v := r_53) hx hb hr hK hP hD hS hC hh hpp ⟨S_66w, ⟨TX.o13 tx_60A, by rw [tx_60e]; exact ⟨⟨tx_60t, tx_60gs, yc_o13 tx_60yc⟩, fun h => absurd h tx_60zz, fun _ => ⟨tx_60v, n9, Nat.lt_of_lt_of_le hn hT.1.1, cO_s, tx_60p3⟩⟩⟩⟩ dX5_typed_209 hlocks
  · skip
    rw [hkd] at hkk
    obtain rfl : r_2 = 6 := hkk
    refine lv_tableIn (tgt := 131) hx hb dX5_typed_18 (by decide) (by decide) (by rfl) (by decide) ?_
    refine lv_aload_n hx hb dX5_typed_131 rfl (lv_at hl 1 rfl) ?_
    refine lv_iload_n hx hb dX5_typed_132 rfl (lv_at hl 2 rfl) ?_
    refine lv_iload_n hx hb dX5_typed_133 rfl (lv_at hl 3 rfl) ?_
    refine lv_iload_n hx hb dX5_typed_134 rfl (lv_at hl 4 rfl) ?_
    have hC0 := hC
    refine c_ci (c_runV (As := [.int (nI n9), .int (nI lv), .int (nI dp)]) (rest := []) (q0 := 4) (ci := 5) ⟨hx, hb, hml, hown, htu⟩ (x_typedField l G S fu T V X Y Z q N dp lv tr mk rk top gs z n9 tm hC ih hU hq h15 hT hdp hlv hY2 hE hO hrk hn htp h11 hcv hz hkq hm0 h8 htm h0 hzq h13 hk2 hgc hkd H) (cwV 3 htu hU_X5_106 rfl rfl rfl (by decide +kernel) ⟨show (2 * fu + 141) + 1 ≤ 2 * (fu + 1) + 140 by omega, show 8 + (9 + 11) + (60 * fu + 6530) ≤ 60 * (fu + 1) + 6500 by omega⟩) hP hK hD hC hpp cw_4 rfl rfl hl.1 rfl (lv_room (Nat.le_of_ble_eq_true rfl)) dX5_typed_135) hS hD hh hpp (fun r_68 S_69 H locs hw_70 hP hD hS hC hh hs_71 hpq => ?_)
    clear hpp
    have hpp := hpq
    clear hpq
    try dsimp only at hw_70
    have aw_72 : AW [6, 7, 8, 9, 16, 14, 10, 11, 12, 13, 17, 18, 23, 24, 25, 26, 35] [8, 9, 10, 12, 13] S S_69 := hw_70.1
    have aw_72t : AW [6, 7, 8, 9, 16, 14, 10, 11, 12, 13, 17, 18, 23, 24, 25, 26, 35] [8, 9, 10, 12, 13] S S_69 := AW.rf.tr (aw_72.mono (by decide) (by decide))
    have kk_73 : kK S_69 15 = 0 := (aw_72.2.1 15 (lt35 (by decide)) (by decide)).2.trans h15
    have tj_74 : TJ S_69 N := TJ.aw hT aw_72 (by decide)
    obtain ⟨tx_75A, tx_75F⟩ := hw_70.2
    clear hw_70
    obtain ⟨⟨tx_75t, tx_75gs, tx_75yc⟩, tx_75g, tx_75b⟩ := tx_75F
    obtain ⟨tx_75R, tx_75e⟩ : ∃ R, ty tr top (fu + 1) z n9 lv = R := ⟨_, rfl⟩
    rw [tx_75e] at tx_75yc tx_75g tx_75b
    rcases Nat.eq_zero_or_pos (sto tx_75R.1) with tx_75z | tx_75z
    · skip
      obtain ⟨tx_75v, tx_75x, tx_7512, tx_7513⟩ := tx_75g tx_75z
      subst tx_75v
      have tx_756 := tx_75yc.1.1.2.2.2.2.2.2.2.1
      refine lv_istore (lv' := [(4, .int (nI tx_75R.2)), (0, .ref (ga G 4)), (1, .int (nI n9)), (2, .int (nI lv)), (3, .int (nI dp))]) hx hb dX5_typed_138 hl (by decide) rfl (fun ls hl => ?_)
      refine lv_goto (tgt := 188) hx hb dX5_typed_140 (by decide) ?_
      refine lv_iload hx hb dX5_typed_188 (lv_at hl 0 rfl) ?_
      refine lv_if_ge (tgt := 207) hx hb dX5_typed_190 (by decide) (fun c_76 => ?_) (fun c_76 => absurd (Int32.not_lt.mp (nI_n0 (by omega))) c_76)
      refine lv_iload hx hb dX5_typed_207 (lv_at hl 0 rfl) ?_
      exact c_iret (v := nI tx_75R.2) hx hb hr hK hP hD hS hC hh hpp ⟨aw_72t, ⟨tx_75A, by rw [tx_75e]; exact ⟨⟨tx_75t, tx_75gs, tx_75yc⟩, fun _ => ⟨rfl, tx_75x, tx_7512, tx_7513⟩, fun h => absurd tx_75z h⟩⟩⟩ dX5_typed_209 hlocks
    · skip
      have tx_75zz : sto tx_75R.1 ≠ 0 := Nat.ne_of_gt tx_75z
      obtain ⟨tx_75v, tx_75p⟩ := tx_75b tx_75zz
      have tx_75ng : r_68 < 0 := by rw [tx_75v]; exact sc_neg tx_75zz
      rcases tx_75p with ⟨tx_75p, tx_75p1, tx_75p2, tx_75p3⟩ | ⟨tx_75p2, tx_75p3⟩
      · skip
        refine lv_istore (lv' := [(4, .int r_68), (0, .ref (ga G 4)), (1, .int (nI n9)), (2, .int (nI lv)), (3, .int (nI dp))]) hx hb dX5_typed_138 hl (by decide) rfl (fun ls hl => ?_)
        refine lv_goto (tgt := 188) hx hb dX5_typed_140 (by decide) ?_
        refine lv_iload hx hb dX5_typed_188 (lv_at hl 0 rfl) ?_
        refine lv_if_ge (tgt := 207) hx hb dX5_typed_190 (by decide) (fun c_77 => absurd c_77 (Int32.not_le.mpr tx_75ng)) (fun c_77 => ?_)
        refine lv_aload_n hx hb dX5_typed_193 rfl (lv_at hl 1 rfl) ?_
        refine va_get (D := gD G) (ci := 5) (v := .int (nI tx_75p)) (C := RX5) (T := TX5) (N := 15) hx hb htu cu_in5 hown hK hP 4 cw_4 rfl 13 (by decide) (htu _ C_58) (fun _ h9 => h9) (m_v tx_75p2) dX5_typed_194 ?_
        refine lv_bipush (v := (-9)) hx hb dX5_typed_197 (by decide) ?_
        refine lv_icmp_ne (tgt := 207) hx hb dX5_typed_199 (by decide) (fun c_78 => ?_) (fun c_78 => absurd c_78 (nI_neg (by decide) (by omega)))
        refine lv_iload hx hb dX5_typed_207 (lv_at hl 0 rfl) ?_
        exact c_iret (v := r_68) hx hb hr hK hP hD hS hC hh hpp ⟨aw_72t, ⟨tx_75A, by rw [tx_75e]; exact ⟨⟨tx_75t, tx_75gs, tx_75yc⟩, fun h => absurd h tx_75zz, fun _ => ⟨tx_75v, tx_75p, tx_75p1, tx_75p2, tx_75p3⟩⟩⟩⟩ dX5_typed_209 hlocks
      · skip
        refine lv_istore (lv' := [(4, .int r_68), (0, .ref (ga G 4)), (1, .int (nI n9)), (2, .int (nI lv)), (3, .int (nI dp))]) hx hb dX5_typed_138 hl (by decide) rfl (fun ls hl => ?_)
        refine lv_goto (tgt := 188) hx hb dX5_typed_140 (by decide) ?_
        refine lv_iload hx hb dX5_typed_188 (lv_at hl 0 rfl) ?_
        refine lv_if_ge (tgt := 207) hx hb dX5_typed_190 (by decide) (fun c_79 => absurd c_79 (Int32.not_le.mpr tx_75ng)) (fun c_79 => ?_)
        refine lv_aload_n hx hb dX5_typed_193 rfl (lv_at hl 1 rfl) ?_
        refine va_get (D := gD G) (ci := 5) (v := .int ((-9))) (C := RX5) (T := TX5) (N := 15) hx hb htu cu_in5 hown hK hP 4 cw_4 rfl 13 (by decide) (htu _ C_58) (fun _ h9 => h9) (m_v tx_75p2) dX5_typed_194 ?_
        refine lv_bipush (v := (-9)) hx hb dX5_typed_197 (by decide) ?_
        refine lv_icmp_ne (tgt := 207) hx hb dX5_typed_199 (by decide) (fun c_80 => absurd (by decide) c_80) (fun c_80 => ?_)
        refine lv_aload_n hx hb dX5_typed_202 rfl (lv_at hl 1 rfl) ?_
        refine lv_iload_n hx hb dX5_typed_203 rfl (lv_at hl 2 rfl) ?_
        refine c_put4_13 (x := (nI n9)) hx hb htu hown hK hP hD hS (htu _ C_58) dX5_typed_204 (fun H locs hP hD hS => ?_)
        have S_81h : HS S (cO S_69 13 (nI n9)) := hh
        have S_81c : CL (cO S_69 13 (nI n9)) := hC
        have S_81p : PT S ≤ PT (cO S_69 13 (nI n9)) := hpp
        refine c_eq (S1 := S_69) (S2 := cO S_69 13 (nI n9)) rfl ?_
        have S_81w : AW [6, 7, 8, 9, 16, 14, 10, 11, 12, 13, 17, 18, 23, 24, 25, 26, 35] [8, 9, 10, 12, 13] S (cO S_69 13 (nI n9)) := (AW.o aw_72t (by decide))
        have hh := S_81h
        have hC := S_81c
        clear hpp
        have hpp := S_81p
        clear S_81p
        have tj_82 : TJ (cO S_69 13 (nI n9)) N := tj_74
        refine lv_iload hx hb dX5_typed_207 (lv_at hl 0 rfl) ?_
        exact c_iret (v := r_68) hx hb hr hK hP hD hS hC hh hpp ⟨S_81w, ⟨TX.o13 tx_75A, by rw [tx_75e]; exact ⟨⟨tx_75t, tx_75gs, yc_o13 tx_75yc⟩, fun h => absurd h tx_75zz, fun _ => ⟨tx_75v, n9, Nat.lt_of_lt_of_le hn hT.1.1, cO_s, tx_75p3⟩⟩⟩⟩ dX5_typed_209 hlocks
  · skip
    rw [hkd] at hkk
    obtain rfl : r_2 = 7 := hkk
    refine lv_tableIn (tgt := 143) hx hb dX5_typed_18 (by decide) (by decide) (by rfl) (by decide) ?_
    refine lv_aload_n hx hb dX5_typed_143 rfl (lv_at hl 1 rfl) ?_
    refine lv_iload_n hx hb dX5_typed_144 rfl (lv_at hl 2 rfl) ?_
    refine lv_iload_n hx hb dX5_typed_145 rfl (lv_at hl 3 rfl) ?_
    refine lv_iload_n hx hb dX5_typed_146 rfl (lv_at hl 4 rfl) ?_
    have hC0 := hC
    refine c_ci (c_runV (As := [.int (nI n9), .int (nI lv), .int (nI dp)]) (rest := []) (q0 := 4) (ci := 5) ⟨hx, hb, hml, hown, htu⟩ (x_typedLet l G S fu T V X Y Z q N dp lv tr mk rk top gs z n9 tm hC ih hU hq h15 hT hdp hlv hY2 hE hO hrk hn htp h11 hcv hz hkq hm0 h8 htm h0 hzq h13 hk2 hgc hkd H) (cwV 3 htu hU_X5_109 rfl rfl rfl (by decide +kernel) ⟨show (2 * fu + 141) + 1 ≤ 2 * (fu + 1) + 140 by omega, show 8 + (5 + 11) + (60 * fu + 6530) ≤ 60 * (fu + 1) + 6500 by omega⟩) hP hK hD hC hpp cw_4 rfl rfl hl.1 rfl (lv_room (Nat.le_of_ble_eq_true rfl)) dX5_typed_147) hS hD hh hpp (fun r_83 S_84 H locs hw_85 hP hD hS hC hh hs_86 hpq => ?_)
    clear hpp
    have hpp := hpq
    clear hpq
    try dsimp only at hw_85
    have aw_87 : AW [6, 7, 8, 9, 16, 14, 10, 11, 12, 13, 17, 18, 23, 24, 25, 26, 35] [8, 9, 10, 12, 13] S S_84 := hw_85.1
    have aw_87t : AW [6, 7, 8, 9, 16, 14, 10, 11, 12, 13, 17, 18, 23, 24, 25, 26, 35] [8, 9, 10, 12, 13] S S_84 := AW.rf.tr (aw_87.mono (by decide) (by decide))
    have kk_88 : kK S_84 15 = 0 := (aw_87.2.1 15 (lt35 (by decide)) (by decide)).2.trans h15
    have tj_89 : TJ S_84 N := TJ.aw hT aw_87 (by decide)
    obtain ⟨tx_90A, tx_90F⟩ := hw_85.2
    clear hw_85
    obtain ⟨⟨tx_90t, tx_90gs, tx_90yc⟩, tx_90g, tx_90b⟩ := tx_90F
    obtain ⟨tx_90R, tx_90e⟩ : ∃ R, ty tr top (fu + 1) z n9 lv = R := ⟨_, rfl⟩
    rw [tx_90e] at tx_90yc tx_90g tx_90b
    rcases Nat.eq_zero_or_pos (sto tx_90R.1) with tx_90z | tx_90z
    · skip
      obtain ⟨tx_90v, tx_90x, tx_9012, tx_9013⟩ := tx_90g tx_90z
      subst tx_90v
      have tx_906 := tx_90yc.1.1.2.2.2.2.2.2.2.1
      refine lv_istore (lv' := [(4, .int (nI tx_90R.2)), (0, .ref (ga G 4)), (1, .int (nI n9)), (2, .int (nI lv)), (3, .int (nI dp))]) hx hb dX5_typed_150 hl (by decide) rfl (fun ls hl => ?_)
      refine lv_goto (tgt := 188) hx hb dX5_typed_152 (by decide) ?_
      refine lv_iload hx hb dX5_typed_188 (lv_at hl 0 rfl) ?_
      refine lv_if_ge (tgt := 207) hx hb dX5_typed_190 (by decide) (fun c_91 => ?_) (fun c_91 => absurd (Int32.not_lt.mp (nI_n0 (by omega))) c_91)
      refine lv_iload hx hb dX5_typed_207 (lv_at hl 0 rfl) ?_
      exact c_iret (v := nI tx_90R.2) hx hb hr hK hP hD hS hC hh hpp ⟨aw_87t, ⟨tx_90A, by rw [tx_90e]; exact ⟨⟨tx_90t, tx_90gs, tx_90yc⟩, fun _ => ⟨rfl, tx_90x, tx_9012, tx_9013⟩, fun h => absurd tx_90z h⟩⟩⟩ dX5_typed_209 hlocks
    · skip
      have tx_90zz : sto tx_90R.1 ≠ 0 := Nat.ne_of_gt tx_90z
      obtain ⟨tx_90v, tx_90p⟩ := tx_90b tx_90zz
      have tx_90ng : r_83 < 0 := by rw [tx_90v]; exact sc_neg tx_90zz
      rcases tx_90p with ⟨tx_90p, tx_90p1, tx_90p2, tx_90p3⟩ | ⟨tx_90p2, tx_90p3⟩
      · skip
        refine lv_istore (lv' := [(4, .int r_83), (0, .ref (ga G 4)), (1, .int (nI n9)), (2, .int (nI lv)), (3, .int (nI dp))]) hx hb dX5_typed_150 hl (by decide) rfl (fun ls hl => ?_)
        refine lv_goto (tgt := 188) hx hb dX5_typed_152 (by decide) ?_
        refine lv_iload hx hb dX5_typed_188 (lv_at hl 0 rfl) ?_
        refine lv_if_ge (tgt := 207) hx hb dX5_typed_190 (by decide) (fun c_92 => absurd c_92 (Int32.not_le.mpr tx_90ng)) (fun c_92 => ?_)
        refine lv_aload_n hx hb dX5_typed_193 rfl (lv_at hl 1 rfl) ?_
        refine va_get (D := gD G) (ci := 5) (v := .int (nI tx_90p)) (C := RX5) (T := TX5) (N := 15) hx hb htu cu_in5 hown hK hP 4 cw_4 rfl 13 (by decide) (htu _ C_58) (fun _ h9 => h9) (m_v tx_90p2) dX5_typed_194 ?_
        refine lv_bipush (v := (-9)) hx hb dX5_typed_197 (by decide) ?_
        refine lv_icmp_ne (tgt := 207) hx hb dX5_typed_199 (by decide) (fun c_93 => ?_) (fun c_93 => absurd c_93 (nI_neg (by decide) (by omega)))
        refine lv_iload hx hb dX5_typed_207 (lv_at hl 0 rfl) ?_
        exact c_iret (v := r_83) hx hb hr hK hP hD hS hC hh hpp ⟨aw_87t, ⟨tx_90A, by rw [tx_90e]; exact ⟨⟨tx_90t, tx_90gs, tx_90yc⟩, fun h => absurd h tx_90zz, fun _ => ⟨tx_90v, tx_90p, tx_90p1, tx_90p2, tx_90p3⟩⟩⟩⟩ dX5_typed_209 hlocks
      · skip
        refine lv_istore (lv' := [(4, .int r_83), (0, .ref (ga G 4)), (1, .int (nI n9)), (2, .int (nI lv)), (3, .int (nI dp))]) hx hb dX5_typed_150 hl (by decide) rfl (fun ls hl => ?_)
        refine lv_goto (tgt := 188) hx hb dX5_typed_152 (by decide) ?_
        refine lv_iload hx hb dX5_typed_188 (lv_at hl 0 rfl) ?_
        refine lv_if_ge (tgt := 207) hx hb dX5_typed_190 (by decide) (fun c_94 => absurd c_94 (Int32.not_le.mpr tx_90ng)) (fun c_94 => ?_)
        refine lv_aload_n hx hb dX5_typed_193 rfl (lv_at hl 1 rfl) ?_
        refine va_get (D := gD G) (ci := 5) (v := .int ((-9))) (C := RX5) (T := TX5) (N := 15) hx hb htu cu_in5 hown hK hP 4 cw_4 rfl 13 (by decide) (htu _ C_58) (fun _ h9 => h9) (m_v tx_90p2) dX5_typed_194 ?_
        refine lv_bipush (v := (-9)) hx hb dX5_typed_197 (by decide) ?_
        refine lv_icmp_ne (tgt := 207) hx hb dX5_typed_199 (by decide) (fun c_95 => absurd (by decide) c_95) (fun c_95 => ?_)
        refine lv_aload_n hx hb dX5_typed_202 rfl (lv_at hl 1 rfl) ?_
        refine lv_iload_n hx hb dX5_typed_203 rfl (lv_at hl 2 rfl) ?_
        refine c_put4_13 (x := (nI n9)) hx hb htu hown hK hP hD hS (htu _ C_58) dX5_typed_204 (fun H locs hP hD hS => ?_)
        have S_96h : HS S (cO S_84 13 (nI n9)) := hh
        have S_96c : CL (cO S_84 13 (nI n9)) := hC
        have S_96p : PT S ≤ PT (cO S_84 13 (nI n9)) := hpp
        refine c_eq (S1 := S_84) (S2 := cO S_84 13 (nI n9)) rfl ?_
        have S_96w : AW [6, 7, 8, 9, 16, 14, 10, 11, 12, 13, 17, 18, 23, 24, 25, 26, 35] [8, 9, 10, 12, 13] S (cO S_84 13 (nI n9)) := (AW.o aw_87t (by decide))
        have hh := S_96h
        have hC := S_96c
        clear hpp
        have hpp := S_96p
        clear S_96p
        have tj_97 : TJ (cO S_84 13 (nI n9)) N := tj_89
        refine lv_iload hx hb dX5_typed_207 (lv_at hl 0 rfl) ?_
        exact c_iret (v := r_83) hx hb hr hK hP hD hS hC hh hpp ⟨S_96w, ⟨TX.o13 tx_90A, by rw [tx_90e]; exact ⟨⟨tx_90t, tx_90gs, yc_o13 tx_90yc⟩, fun h => absurd h tx_90zz, fun _ => ⟨tx_90v, n9, Nat.lt_of_lt_of_le hn hT.1.1, cO_s, tx_90p3⟩⟩⟩⟩ dX5_typed_209 hlocks
  · skip
    rw [hkd] at hkk
    obtain rfl : r_2 = 8 := hkk
    refine lv_tableIn (tgt := 155) hx hb dX5_typed_18 (by decide) (by decide) (by rfl) (by decide) ?_
    refine lv_aload_n hx hb dX5_typed_155 rfl (lv_at hl 1 rfl) ?_
    refine lv_iload_n hx hb dX5_typed_156 rfl (lv_at hl 2 rfl) ?_
    refine lv_iload_n hx hb dX5_typed_157 rfl (lv_at hl 3 rfl) ?_
    refine lv_iload_n hx hb dX5_typed_158 rfl (lv_at hl 4 rfl) ?_
    have hC0 := hC
    refine c_ci (c_runV (As := [.int (nI n9), .int (nI lv), .int (nI dp)]) (rest := []) (q0 := 4) (ci := 5) ⟨hx, hb, hml, hown, htu⟩ (x_typedRec l G S fu T V X Y Z q N dp lv tr mk rk top gs z n9 tm hC ih hU hq h15 hT hdp hlv hY2 hE hO hrk hn htp h11 hcv hz hkq hm0 h8 htm h0 hzq h13 hk2 hgc hkd H) (cwV 3 htu hU_X5_112 rfl rfl rfl (by decide +kernel) ⟨show (2 * fu + 141) + 1 ≤ 2 * (fu + 1) + 140 by omega, show 8 + (7 + 11) + (60 * fu + 6530) ≤ 60 * (fu + 1) + 6500 by omega⟩) hP hK hD hC hpp cw_4 rfl rfl hl.1 rfl (lv_room (Nat.le_of_ble_eq_true rfl)) dX5_typed_159) hS hD hh hpp (fun r_98 S_99 H locs hw_100 hP hD hS hC hh hs_101 hpq => ?_)
    clear hpp
    have hpp := hpq
    clear hpq
    try dsimp only at hw_100
    have aw_102 : AW [6, 7, 8, 9, 16, 14, 10, 11, 12, 13, 17, 18, 23, 24, 25, 26, 35] [8, 9, 10, 12, 13] S S_99 := hw_100.1
    have aw_102t : AW [6, 7, 8, 9, 16, 14, 10, 11, 12, 13, 17, 18, 23, 24, 25, 26, 35] [8, 9, 10, 12, 13] S S_99 := AW.rf.tr (aw_102.mono (by decide) (by decide))
    have kk_103 : kK S_99 15 = 0 := (aw_102.2.1 15 (lt35 (by decide)) (by decide)).2.trans h15
    have tj_104 : TJ S_99 N := TJ.aw hT aw_102 (by decide)
    obtain ⟨tx_105A, tx_105F⟩ := hw_100.2
    clear hw_100
    obtain ⟨⟨tx_105t, tx_105gs, tx_105yc⟩, tx_105g, tx_105b⟩ := tx_105F
    obtain ⟨tx_105R, tx_105e⟩ : ∃ R, ty tr top (fu + 1) z n9 lv = R := ⟨_, rfl⟩
    rw [tx_105e] at tx_105yc tx_105g tx_105b
    rcases Nat.eq_zero_or_pos (sto tx_105R.1) with tx_105z | tx_105z
    · skip
      obtain ⟨tx_105v, tx_105x, tx_10512, tx_10513⟩ := tx_105g tx_105z
      subst tx_105v
      have tx_1056 := tx_105yc.1.1.2.2.2.2.2.2.2.1
      refine lv_istore (lv' := [(4, .int (nI tx_105R.2)), (0, .ref (ga G 4)), (1, .int (nI n9)), (2, .int (nI lv)), (3, .int (nI dp))]) hx hb dX5_typed_162 hl (by decide) rfl (fun ls hl => ?_)
      refine lv_goto (tgt := 188) hx hb dX5_typed_164 (by decide) ?_
      refine lv_iload hx hb dX5_typed_188 (lv_at hl 0 rfl) ?_
      refine lv_if_ge (tgt := 207) hx hb dX5_typed_190 (by decide) (fun c_106 => ?_) (fun c_106 => absurd (Int32.not_lt.mp (nI_n0 (by omega))) c_106)
      refine lv_iload hx hb dX5_typed_207 (lv_at hl 0 rfl) ?_
      exact c_iret (v := nI tx_105R.2) hx hb hr hK hP hD hS hC hh hpp ⟨aw_102t, ⟨tx_105A, by rw [tx_105e]; exact ⟨⟨tx_105t, tx_105gs, tx_105yc⟩, fun _ => ⟨rfl, tx_105x, tx_10512, tx_10513⟩, fun h => absurd tx_105z h⟩⟩⟩ dX5_typed_209 hlocks
    · skip
      have tx_105zz : sto tx_105R.1 ≠ 0 := Nat.ne_of_gt tx_105z
      obtain ⟨tx_105v, tx_105p⟩ := tx_105b tx_105zz
      have tx_105ng : r_98 < 0 := by rw [tx_105v]; exact sc_neg tx_105zz
      rcases tx_105p with ⟨tx_105p, tx_105p1, tx_105p2, tx_105p3⟩ | ⟨tx_105p2, tx_105p3⟩
      · skip
        refine lv_istore (lv' := [(4, .int r_98), (0, .ref (ga G 4)), (1, .int (nI n9)), (2, .int (nI lv)), (3, .int (nI dp))]) hx hb dX5_typed_162 hl (by decide) rfl (fun ls hl => ?_)
        refine lv_goto (tgt := 188) hx hb dX5_typed_164 (by decide) ?_
        refine lv_iload hx hb dX5_typed_188 (lv_at hl 0 rfl) ?_
        refine lv_if_ge (tgt := 207) hx hb dX5_typed_190 (by decide) (fun c_107 => absurd c_107 (Int32.not_le.mpr tx_105ng)) (fun c_107 => ?_)
        refine lv_aload_n hx hb dX5_typed_193 rfl (lv_at hl 1 rfl) ?_
        refine va_get (D := gD G) (ci := 5) (v := .int (nI tx_105p)) (C := RX5) (T := TX5) (N := 15) hx hb htu cu_in5 hown hK hP 4 cw_4 rfl 13 (by decide) (htu _ C_58) (fun _ h9 => h9) (m_v tx_105p2) dX5_typed_194 ?_
        refine lv_bipush (v := (-9)) hx hb dX5_typed_197 (by decide) ?_
        refine lv_icmp_ne (tgt := 207) hx hb dX5_typed_199 (by decide) (fun c_108 => ?_) (fun c_108 => absurd c_108 (nI_neg (by decide) (by omega)))
        refine lv_iload hx hb dX5_typed_207 (lv_at hl 0 rfl) ?_
        exact c_iret (v := r_98) hx hb hr hK hP hD hS hC hh hpp ⟨aw_102t, ⟨tx_105A, by rw [tx_105e]; exact ⟨⟨tx_105t, tx_105gs, tx_105yc⟩, fun h => absurd h tx_105zz, fun _ => ⟨tx_105v, tx_105p, tx_105p1, tx_105p2, tx_105p3⟩⟩⟩⟩ dX5_typed_209 hlocks
      · skip
        refine lv_istore (lv' := [(4, .int r_98), (0, .ref (ga G 4)), (1, .int (nI n9)), (2, .int (nI lv)), (3, .int (nI dp))]) hx hb dX5_typed_162 hl (by decide) rfl (fun ls hl => ?_)
        refine lv_goto (tgt := 188) hx hb dX5_typed_164 (by decide) ?_
        refine lv_iload hx hb dX5_typed_188 (lv_at hl 0 rfl) ?_
        refine lv_if_ge (tgt := 207) hx hb dX5_typed_190 (by decide) (fun c_109 => absurd c_109 (Int32.not_le.mpr tx_105ng)) (fun c_109 => ?_)
        refine lv_aload_n hx hb dX5_typed_193 rfl (lv_at hl 1 rfl) ?_
        refine va_get (D := gD G) (ci := 5) (v := .int ((-9))) (C := RX5) (T := TX5) (N := 15) hx hb htu cu_in5 hown hK hP 4 cw_4 rfl 13 (by decide) (htu _ C_58) (fun _ h9 => h9) (m_v tx_105p2) dX5_typed_194 ?_
        refine lv_bipush (v := (-9)) hx hb dX5_typed_197 (by decide) ?_
        refine lv_icmp_ne (tgt := 207) hx hb dX5_typed_199 (by decide) (fun c_110 => absurd (by decide) c_110) (fun c_110 => ?_)
        refine lv_aload_n hx hb dX5_typed_202 rfl (lv_at hl 1 rfl) ?_
        refine lv_iload_n hx hb dX5_typed_203 rfl (lv_at hl 2 rfl) ?_
        refine c_put4_13 (x := (nI n9)) hx hb htu hown hK hP hD hS (htu _ C_58) dX5_typed_204 (fun H locs hP hD hS => ?_)
        have S_111h : HS S (cO S_99 13 (nI n9)) := hh
        have S_111c : CL (cO S_99 13 (nI n9)) := hC
        have S_111p : PT S ≤ PT (cO S_99 13 (nI n9)) := hpp
        refine c_eq (S1 := S_99) (S2 := cO S_99 13 (nI n9)) rfl ?_
        have S_111w : AW [6, 7, 8, 9, 16, 14, 10, 11, 12, 13, 17, 18, 23, 24, 25, 26, 35] [8, 9, 10, 12, 13] S (cO S_99 13 (nI n9)) := (AW.o aw_102t (by decide))
        have hh := S_111h
        have hC := S_111c
        clear hpp
        have hpp := S_111p
        clear S_111p
        have tj_112 : TJ (cO S_99 13 (nI n9)) N := tj_104
        refine lv_iload hx hb dX5_typed_207 (lv_at hl 0 rfl) ?_
        exact c_iret (v := r_98) hx hb hr hK hP hD hS hC hh hpp ⟨S_111w, ⟨TX.o13 tx_105A, by rw [tx_105e]; exact ⟨⟨tx_105t, tx_105gs, yc_o13 tx_105yc⟩, fun h => absurd h tx_105zz, fun _ => ⟨tx_105v, n9, Nat.lt_of_lt_of_le hn hT.1.1, cO_s, tx_105p3⟩⟩⟩⟩ dX5_typed_209 hlocks
  · skip
    rw [hkd] at hkk
    obtain rfl : r_2 = 9 := hkk
    refine lv_tableIn (tgt := 167) hx hb dX5_typed_18 (by decide) (by decide) (by rfl) (by decide) ?_
    refine lv_aload_n hx hb dX5_typed_167 rfl (lv_at hl 1 rfl) ?_
    refine lv_iload_n hx hb dX5_typed_168 rfl (lv_at hl 2 rfl) ?_
    refine lv_iload_n hx hb dX5_typed_169 rfl (lv_at hl 3 rfl) ?_
    refine lv_iload_n hx hb dX5_typed_170 rfl (lv_at hl 4 rfl) ?_
    have hC0 := hC
    refine c_ci (c_runV (As := [.int (nI n9), .int (nI lv), .int (nI dp)]) (rest := []) (q0 := 4) (ci := 5) ⟨hx, hb, hml, hown, htu⟩ (x_typedPick l G S fu T V X Y Z q N dp lv tr mk rk top gs z n9 tm hC ih hU hq h15 hT hdp hlv hY2 hE hO hrk hn htp h11 hcv hz hkq hm0 h8 htm h0 hzq h13 hk2 hgc hkd H) (cwV 3 htu hU_X5_115 rfl rfl rfl (by decide +kernel) ⟨show (2 * fu + 141) + 1 ≤ 2 * (fu + 1) + 140 by omega, show 8 + (9 + 11) + (60 * fu + 6530) ≤ 60 * (fu + 1) + 6500 by omega⟩) hP hK hD hC hpp cw_4 rfl rfl hl.1 rfl (lv_room (Nat.le_of_ble_eq_true rfl)) dX5_typed_171) hS hD hh hpp (fun r_113 S_114 H locs hw_115 hP hD hS hC hh hs_116 hpq => ?_)
    clear hpp
    have hpp := hpq
    clear hpq
    try dsimp only at hw_115
    have aw_117 : AW [6, 7, 8, 9, 16, 14, 10, 11, 12, 13, 17, 18, 23, 24, 25, 26, 35] [8, 9, 10, 12, 13] S S_114 := hw_115.1
    have aw_117t : AW [6, 7, 8, 9, 16, 14, 10, 11, 12, 13, 17, 18, 23, 24, 25, 26, 35] [8, 9, 10, 12, 13] S S_114 := AW.rf.tr (aw_117.mono (by decide) (by decide))
    have kk_118 : kK S_114 15 = 0 := (aw_117.2.1 15 (lt35 (by decide)) (by decide)).2.trans h15
    have tj_119 : TJ S_114 N := TJ.aw hT aw_117 (by decide)
    obtain ⟨tx_120A, tx_120F⟩ := hw_115.2
    clear hw_115
    obtain ⟨⟨tx_120t, tx_120gs, tx_120yc⟩, tx_120g, tx_120b⟩ := tx_120F
    obtain ⟨tx_120R, tx_120e⟩ : ∃ R, ty tr top (fu + 1) z n9 lv = R := ⟨_, rfl⟩
    rw [tx_120e] at tx_120yc tx_120g tx_120b
    rcases Nat.eq_zero_or_pos (sto tx_120R.1) with tx_120z | tx_120z
    · skip
      obtain ⟨tx_120v, tx_120x, tx_12012, tx_12013⟩ := tx_120g tx_120z
      subst tx_120v
      have tx_1206 := tx_120yc.1.1.2.2.2.2.2.2.2.1
      refine lv_istore (lv' := [(4, .int (nI tx_120R.2)), (0, .ref (ga G 4)), (1, .int (nI n9)), (2, .int (nI lv)), (3, .int (nI dp))]) hx hb dX5_typed_174 hl (by decide) rfl (fun ls hl => ?_)
      refine lv_goto (tgt := 188) hx hb dX5_typed_176 (by decide) ?_
      refine lv_iload hx hb dX5_typed_188 (lv_at hl 0 rfl) ?_
      refine lv_if_ge (tgt := 207) hx hb dX5_typed_190 (by decide) (fun c_121 => ?_) (fun c_121 => absurd (Int32.not_lt.mp (nI_n0 (by omega))) c_121)
      refine lv_iload hx hb dX5_typed_207 (lv_at hl 0 rfl) ?_
      exact c_iret (v := nI tx_120R.2) hx hb hr hK hP hD hS hC hh hpp ⟨aw_117t, ⟨tx_120A, by rw [tx_120e]; exact ⟨⟨tx_120t, tx_120gs, tx_120yc⟩, fun _ => ⟨rfl, tx_120x, tx_12012, tx_12013⟩, fun h => absurd tx_120z h⟩⟩⟩ dX5_typed_209 hlocks
    · skip
      have tx_120zz : sto tx_120R.1 ≠ 0 := Nat.ne_of_gt tx_120z
      obtain ⟨tx_120v, tx_120p⟩ := tx_120b tx_120zz
      have tx_120ng : r_113 < 0 := by rw [tx_120v]; exact sc_neg tx_120zz
      rcases tx_120p with ⟨tx_120p, tx_120p1, tx_120p2, tx_120p3⟩ | ⟨tx_120p2, tx_120p3⟩
      · skip
        refine lv_istore (lv' := [(4, .int r_113), (0, .ref (ga G 4)), (1, .int (nI n9)), (2, .int (nI lv)), (3, .int (nI dp))]) hx hb dX5_typed_174 hl (by decide) rfl (fun ls hl => ?_)
        refine lv_goto (tgt := 188) hx hb dX5_typed_176 (by decide) ?_
        refine lv_iload hx hb dX5_typed_188 (lv_at hl 0 rfl) ?_
        refine lv_if_ge (tgt := 207) hx hb dX5_typed_190 (by decide) (fun c_122 => absurd c_122 (Int32.not_le.mpr tx_120ng)) (fun c_122 => ?_)
        refine lv_aload_n hx hb dX5_typed_193 rfl (lv_at hl 1 rfl) ?_
        refine va_get (D := gD G) (ci := 5) (v := .int (nI tx_120p)) (C := RX5) (T := TX5) (N := 15) hx hb htu cu_in5 hown hK hP 4 cw_4 rfl 13 (by decide) (htu _ C_58) (fun _ h9 => h9) (m_v tx_120p2) dX5_typed_194 ?_
        refine lv_bipush (v := (-9)) hx hb dX5_typed_197 (by decide) ?_
        refine lv_icmp_ne (tgt := 207) hx hb dX5_typed_199 (by decide) (fun c_123 => ?_) (fun c_123 => absurd c_123 (nI_neg (by decide) (by omega)))
        refine lv_iload hx hb dX5_typed_207 (lv_at hl 0 rfl) ?_
        exact c_iret (v := r_113) hx hb hr hK hP hD hS hC hh hpp ⟨aw_117t, ⟨tx_120A, by rw [tx_120e]; exact ⟨⟨tx_120t, tx_120gs, tx_120yc⟩, fun h => absurd h tx_120zz, fun _ => ⟨tx_120v, tx_120p, tx_120p1, tx_120p2, tx_120p3⟩⟩⟩⟩ dX5_typed_209 hlocks
      · skip
        refine lv_istore (lv' := [(4, .int r_113), (0, .ref (ga G 4)), (1, .int (nI n9)), (2, .int (nI lv)), (3, .int (nI dp))]) hx hb dX5_typed_174 hl (by decide) rfl (fun ls hl => ?_)
        refine lv_goto (tgt := 188) hx hb dX5_typed_176 (by decide) ?_
        refine lv_iload hx hb dX5_typed_188 (lv_at hl 0 rfl) ?_
        refine lv_if_ge (tgt := 207) hx hb dX5_typed_190 (by decide) (fun c_124 => absurd c_124 (Int32.not_le.mpr tx_120ng)) (fun c_124 => ?_)
        refine lv_aload_n hx hb dX5_typed_193 rfl (lv_at hl 1 rfl) ?_
        refine va_get (D := gD G) (ci := 5) (v := .int ((-9))) (C := RX5) (T := TX5) (N := 15) hx hb htu cu_in5 hown hK hP 4 cw_4 rfl 13 (by decide) (htu _ C_58) (fun _ h9 => h9) (m_v tx_120p2) dX5_typed_194 ?_
        refine lv_bipush (v := (-9)) hx hb dX5_typed_197 (by decide) ?_
        refine lv_icmp_ne (tgt := 207) hx hb dX5_typed_199 (by decide) (fun c_125 => absurd (by decide) c_125) (fun c_125 => ?_)
        refine lv_aload_n hx hb dX5_typed_202 rfl (lv_at hl 1 rfl) ?_
        refine lv_iload_n hx hb dX5_typed_203 rfl (lv_at hl 2 rfl) ?_
        refine c_put4_13 (x := (nI n9)) hx hb htu hown hK hP hD hS (htu _ C_58) dX5_typed_204 (fun H locs hP hD hS => ?_)
        have S_126h : HS S (cO S_114 13 (nI n9)) := hh
        have S_126c : CL (cO S_114 13 (nI n9)) := hC
        have S_126p : PT S ≤ PT (cO S_114 13 (nI n9)) := hpp
        refine c_eq (S1 := S_114) (S2 := cO S_114 13 (nI n9)) rfl ?_
        have S_126w : AW [6, 7, 8, 9, 16, 14, 10, 11, 12, 13, 17, 18, 23, 24, 25, 26, 35] [8, 9, 10, 12, 13] S (cO S_114 13 (nI n9)) := (AW.o aw_117t (by decide))
        have hh := S_126h
        have hC := S_126c
        clear hpp
        have hpp := S_126p
        clear S_126p
        have tj_127 : TJ (cO S_114 13 (nI n9)) N := tj_119
        refine lv_iload hx hb dX5_typed_207 (lv_at hl 0 rfl) ?_
        exact c_iret (v := r_113) hx hb hr hK hP hD hS hC hh hpp ⟨S_126w, ⟨TX.o13 tx_120A, by rw [tx_120e]; exact ⟨⟨tx_120t, tx_120gs, yc_o13 tx_120yc⟩, fun h => absurd h tx_120zz, fun _ => ⟨tx_120v, n9, Nat.lt_of_lt_of_le hn hT.1.1, cO_s, tx_120p3⟩⟩⟩⟩ dX5_typed_209 hlocks
  · skip
    rw [hkd] at hkk
    obtain rfl : r_2 = 10 := hkk
    refine lv_tableOut (tgt := 179) hx hb dX5_typed_18 (by decide) (by decide) ?_
    refine lv_aload_n hx hb dX5_typed_179 rfl (lv_at hl 1 rfl) ?_
    refine lv_iload_n hx hb dX5_typed_180 rfl (lv_at hl 2 rfl) ?_
    refine lv_iload_n hx hb dX5_typed_181 rfl (lv_at hl 3 rfl) ?_
    refine lv_iload_n hx hb dX5_typed_182 rfl (lv_at hl 4 rfl) ?_
    have hC0 := hC
    refine c_ci (c_runV (As := [.int (nI n9), .int (nI lv), .int (nI dp)]) (rest := []) (q0 := 4) (ci := 5) ⟨hx, hb, hml, hown, htu⟩ (x_typedSum l G S fu T V X Y Z q N dp lv tr mk rk top gs z n9 tm hC ih hU hq h15 hT hdp hlv hY2 hE hO hrk hn htp h11 hcv hz hkq hm0 h8 htm h0 hzq h13 hk2 hgc hkd H) (cwV 3 htu hU_X5_118 rfl rfl rfl (by decide +kernel) ⟨show (2 * fu + 141) + 1 ≤ 2 * (fu + 1) + 140 by omega, show 8 + (7 + 11) + (60 * fu + 6530) ≤ 60 * (fu + 1) + 6500 by omega⟩) hP hK hD hC hpp cw_4 rfl rfl hl.1 rfl (lv_room (Nat.le_of_ble_eq_true rfl)) dX5_typed_183) hS hD hh hpp (fun r_128 S_129 H locs hw_130 hP hD hS hC hh hs_131 hpq => ?_)
    clear hpp
    have hpp := hpq
    clear hpq
    try dsimp only at hw_130
    have aw_132 : AW [6, 7, 8, 9, 16, 14, 10, 11, 12, 13, 17, 18, 23, 24, 25, 26, 35] [8, 9, 10, 12, 13] S S_129 := hw_130.1
    have aw_132t : AW [6, 7, 8, 9, 16, 14, 10, 11, 12, 13, 17, 18, 23, 24, 25, 26, 35] [8, 9, 10, 12, 13] S S_129 := AW.rf.tr (aw_132.mono (by decide) (by decide))
    have kk_133 : kK S_129 15 = 0 := (aw_132.2.1 15 (lt35 (by decide)) (by decide)).2.trans h15
    have tj_134 : TJ S_129 N := TJ.aw hT aw_132 (by decide)
    obtain ⟨tx_135A, tx_135F⟩ := hw_130.2
    clear hw_130
    obtain ⟨⟨tx_135t, tx_135gs, tx_135yc⟩, tx_135g, tx_135b⟩ := tx_135F
    obtain ⟨tx_135R, tx_135e⟩ : ∃ R, ty tr top (fu + 1) z n9 lv = R := ⟨_, rfl⟩
    rw [tx_135e] at tx_135yc tx_135g tx_135b
    rcases Nat.eq_zero_or_pos (sto tx_135R.1) with tx_135z | tx_135z
    · skip
      obtain ⟨tx_135v, tx_135x, tx_13512, tx_13513⟩ := tx_135g tx_135z
      subst tx_135v
      have tx_1356 := tx_135yc.1.1.2.2.2.2.2.2.2.1
      refine lv_istore (lv' := [(4, .int (nI tx_135R.2)), (0, .ref (ga G 4)), (1, .int (nI n9)), (2, .int (nI lv)), (3, .int (nI dp))]) hx hb dX5_typed_186 hl (by decide) rfl (fun ls hl => ?_)
      refine lv_iload hx hb dX5_typed_188 (lv_at hl 0 rfl) ?_
      refine lv_if_ge (tgt := 207) hx hb dX5_typed_190 (by decide) (fun c_136 => ?_) (fun c_136 => absurd (Int32.not_lt.mp (nI_n0 (by omega))) c_136)
      refine lv_iload hx hb dX5_typed_207 (lv_at hl 0 rfl) ?_
      exact c_iret (v := nI tx_135R.2) hx hb hr hK hP hD hS hC hh hpp ⟨aw_132t, ⟨tx_135A, by rw [tx_135e]; exact ⟨⟨tx_135t, tx_135gs, tx_135yc⟩, fun _ => ⟨rfl, tx_135x, tx_13512, tx_13513⟩, fun h => absurd tx_135z h⟩⟩⟩ dX5_typed_209 hlocks
    · skip
      have tx_135zz : sto tx_135R.1 ≠ 0 := Nat.ne_of_gt tx_135z
      obtain ⟨tx_135v, tx_135p⟩ := tx_135b tx_135zz
      have tx_135ng : r_128 < 0 := by rw [tx_135v]; exact sc_neg tx_135zz
      rcases tx_135p with ⟨tx_135p, tx_135p1, tx_135p2, tx_135p3⟩ | ⟨tx_135p2, tx_135p3⟩
      · skip
        refine lv_istore (lv' := [(4, .int r_128), (0, .ref (ga G 4)), (1, .int (nI n9)), (2, .int (nI lv)), (3, .int (nI dp))]) hx hb dX5_typed_186 hl (by decide) rfl (fun ls hl => ?_)
        refine lv_iload hx hb dX5_typed_188 (lv_at hl 0 rfl) ?_
        refine lv_if_ge (tgt := 207) hx hb dX5_typed_190 (by decide) (fun c_137 => absurd c_137 (Int32.not_le.mpr tx_135ng)) (fun c_137 => ?_)
        refine lv_aload_n hx hb dX5_typed_193 rfl (lv_at hl 1 rfl) ?_
        refine va_get (D := gD G) (ci := 5) (v := .int (nI tx_135p)) (C := RX5) (T := TX5) (N := 15) hx hb htu cu_in5 hown hK hP 4 cw_4 rfl 13 (by decide) (htu _ C_58) (fun _ h9 => h9) (m_v tx_135p2) dX5_typed_194 ?_
        refine lv_bipush (v := (-9)) hx hb dX5_typed_197 (by decide) ?_
        refine lv_icmp_ne (tgt := 207) hx hb dX5_typed_199 (by decide) (fun c_138 => ?_) (fun c_138 => absurd c_138 (nI_neg (by decide) (by omega)))
        refine lv_iload hx hb dX5_typed_207 (lv_at hl 0 rfl) ?_
        exact c_iret (v := r_128) hx hb hr hK hP hD hS hC hh hpp ⟨aw_132t, ⟨tx_135A, by rw [tx_135e]; exact ⟨⟨tx_135t, tx_135gs, tx_135yc⟩, fun h => absurd h tx_135zz, fun _ => ⟨tx_135v, tx_135p, tx_135p1, tx_135p2, tx_135p3⟩⟩⟩⟩ dX5_typed_209 hlocks
      · skip
        refine lv_istore (lv' := [(4, .int r_128), (0, .ref (ga G 4)), (1, .int (nI n9)), (2, .int (nI lv)), (3, .int (nI dp))]) hx hb dX5_typed_186 hl (by decide) rfl (fun ls hl => ?_)
        refine lv_iload hx hb dX5_typed_188 (lv_at hl 0 rfl) ?_
        refine lv_if_ge (tgt := 207) hx hb dX5_typed_190 (by decide) (fun c_139 => absurd c_139 (Int32.not_le.mpr tx_135ng)) (fun c_139 => ?_)
        refine lv_aload_n hx hb dX5_typed_193 rfl (lv_at hl 1 rfl) ?_
        refine va_get (D := gD G) (ci := 5) (v := .int ((-9))) (C := RX5) (T := TX5) (N := 15) hx hb htu cu_in5 hown hK hP 4 cw_4 rfl 13 (by decide) (htu _ C_58) (fun _ h9 => h9) (m_v tx_135p2) dX5_typed_194 ?_
        refine lv_bipush (v := (-9)) hx hb dX5_typed_197 (by decide) ?_
        refine lv_icmp_ne (tgt := 207) hx hb dX5_typed_199 (by decide) (fun c_140 => absurd (by decide) c_140) (fun c_140 => ?_)
        refine lv_aload_n hx hb dX5_typed_202 rfl (lv_at hl 1 rfl) ?_
        refine lv_iload_n hx hb dX5_typed_203 rfl (lv_at hl 2 rfl) ?_
        refine c_put4_13 (x := (nI n9)) hx hb htu hown hK hP hD hS (htu _ C_58) dX5_typed_204 (fun H locs hP hD hS => ?_)
        have S_141h : HS S (cO S_129 13 (nI n9)) := hh
        have S_141c : CL (cO S_129 13 (nI n9)) := hC
        have S_141p : PT S ≤ PT (cO S_129 13 (nI n9)) := hpp
        refine c_eq (S1 := S_129) (S2 := cO S_129 13 (nI n9)) rfl ?_
        have S_141w : AW [6, 7, 8, 9, 16, 14, 10, 11, 12, 13, 17, 18, 23, 24, 25, 26, 35] [8, 9, 10, 12, 13] S (cO S_129 13 (nI n9)) := (AW.o aw_132t (by decide))
        have hh := S_141h
        have hC := S_141c
        clear hpp
        have hpp := S_141p
        clear S_141p
        have tj_142 : TJ (cO S_129 13 (nI n9)) N := tj_134
        refine lv_iload hx hb dX5_typed_207 (lv_at hl 0 rfl) ?_
        exact c_iret (v := r_128) hx hb hr hK hP hD hS hC hh hpp ⟨S_141w, ⟨TX.o13 tx_135A, by rw [tx_135e]; exact ⟨⟨tx_135t, tx_135gs, yc_o13 tx_135yc⟩, fun h => absurd h tx_135zz, fun _ => ⟨tx_135v, n9, Nat.lt_of_lt_of_le hn hT.1.1, cO_s, tx_135p3⟩⟩⟩⟩ dX5_typed_209 hlocks
  · skip
    rw [hkd] at hkk
    obtain rfl : r_2 = 11 := hkk
    refine lv_tableOut (tgt := 179) hx hb dX5_typed_18 (by decide) (by decide) ?_
    refine lv_aload_n hx hb dX5_typed_179 rfl (lv_at hl 1 rfl) ?_
    refine lv_iload_n hx hb dX5_typed_180 rfl (lv_at hl 2 rfl) ?_
    refine lv_iload_n hx hb dX5_typed_181 rfl (lv_at hl 3 rfl) ?_
    refine lv_iload_n hx hb dX5_typed_182 rfl (lv_at hl 4 rfl) ?_
    have hC0 := hC
    refine c_ci (c_runV (As := [.int (nI n9), .int (nI lv), .int (nI dp)]) (rest := []) (q0 := 4) (ci := 5) ⟨hx, hb, hml, hown, htu⟩ (x_typedLess l G S fu T V X Y Z q N dp lv tr mk rk top gs z n9 tm hC ih hU hq h15 hT hdp hlv hY2 hE hO hrk hn htp h11 hcv hz hkq hm0 h8 htm h0 hzq h13 hk2 hgc hkd H) (cwV 3 htu hU_X5_118 rfl rfl rfl (by decide +kernel) ⟨show (2 * fu + 141) + 1 ≤ 2 * (fu + 1) + 140 by omega, show 8 + (7 + 11) + (60 * fu + 6530) ≤ 60 * (fu + 1) + 6500 by omega⟩) hP hK hD hC hpp cw_4 rfl rfl hl.1 rfl (lv_room (Nat.le_of_ble_eq_true rfl)) dX5_typed_183) hS hD hh hpp (fun r_143 S_144 H locs hw_145 hP hD hS hC hh hs_146 hpq => ?_)
    clear hpp
    have hpp := hpq
    clear hpq
    try dsimp only at hw_145
    have aw_147 : AW [6, 7, 8, 9, 16, 14, 10, 11, 12, 13, 17, 18, 23, 24, 25, 26, 35] [8, 9, 10, 12, 13] S S_144 := hw_145.1
    have aw_147t : AW [6, 7, 8, 9, 16, 14, 10, 11, 12, 13, 17, 18, 23, 24, 25, 26, 35] [8, 9, 10, 12, 13] S S_144 := AW.rf.tr (aw_147.mono (by decide) (by decide))
    have kk_148 : kK S_144 15 = 0 := (aw_147.2.1 15 (lt35 (by decide)) (by decide)).2.trans h15
    have tj_149 : TJ S_144 N := TJ.aw hT aw_147 (by decide)
    obtain ⟨tx_150A, tx_150F⟩ := hw_145.2
    clear hw_145
    obtain ⟨⟨tx_150t, tx_150gs, tx_150yc⟩, tx_150g, tx_150b⟩ := tx_150F
    obtain ⟨tx_150R, tx_150e⟩ : ∃ R, ty tr top (fu + 1) z n9 lv = R := ⟨_, rfl⟩
    rw [tx_150e] at tx_150yc tx_150g tx_150b
    rcases Nat.eq_zero_or_pos (sto tx_150R.1) with tx_150z | tx_150z
    · skip
      obtain ⟨tx_150v, tx_150x, tx_15012, tx_15013⟩ := tx_150g tx_150z
      subst tx_150v
      have tx_1506 := tx_150yc.1.1.2.2.2.2.2.2.2.1
      refine lv_istore (lv' := [(4, .int (nI tx_150R.2)), (0, .ref (ga G 4)), (1, .int (nI n9)), (2, .int (nI lv)), (3, .int (nI dp))]) hx hb dX5_typed_186 hl (by decide) rfl (fun ls hl => ?_)
      refine lv_iload hx hb dX5_typed_188 (lv_at hl 0 rfl) ?_
      refine lv_if_ge (tgt := 207) hx hb dX5_typed_190 (by decide) (fun c_151 => ?_) (fun c_151 => absurd (Int32.not_lt.mp (nI_n0 (by omega))) c_151)
      refine lv_iload hx hb dX5_typed_207 (lv_at hl 0 rfl) ?_
      exact c_iret (v := nI tx_150R.2) hx hb hr hK hP hD hS hC hh hpp ⟨aw_147t, ⟨tx_150A, by rw [tx_150e]; exact ⟨⟨tx_150t, tx_150gs, tx_150yc⟩, fun _ => ⟨rfl, tx_150x, tx_15012, tx_15013⟩, fun h => absurd tx_150z h⟩⟩⟩ dX5_typed_209 hlocks
    · skip
      have tx_150zz : sto tx_150R.1 ≠ 0 := Nat.ne_of_gt tx_150z
      obtain ⟨tx_150v, tx_150p⟩ := tx_150b tx_150zz
      have tx_150ng : r_143 < 0 := by rw [tx_150v]; exact sc_neg tx_150zz
      rcases tx_150p with ⟨tx_150p, tx_150p1, tx_150p2, tx_150p3⟩ | ⟨tx_150p2, tx_150p3⟩
      · skip
        refine lv_istore (lv' := [(4, .int r_143), (0, .ref (ga G 4)), (1, .int (nI n9)), (2, .int (nI lv)), (3, .int (nI dp))]) hx hb dX5_typed_186 hl (by decide) rfl (fun ls hl => ?_)
        refine lv_iload hx hb dX5_typed_188 (lv_at hl 0 rfl) ?_
        refine lv_if_ge (tgt := 207) hx hb dX5_typed_190 (by decide) (fun c_152 => absurd c_152 (Int32.not_le.mpr tx_150ng)) (fun c_152 => ?_)
        refine lv_aload_n hx hb dX5_typed_193 rfl (lv_at hl 1 rfl) ?_
        refine va_get (D := gD G) (ci := 5) (v := .int (nI tx_150p)) (C := RX5) (T := TX5) (N := 15) hx hb htu cu_in5 hown hK hP 4 cw_4 rfl 13 (by decide) (htu _ C_58) (fun _ h9 => h9) (m_v tx_150p2) dX5_typed_194 ?_
        refine lv_bipush (v := (-9)) hx hb dX5_typed_197 (by decide) ?_
        refine lv_icmp_ne (tgt := 207) hx hb dX5_typed_199 (by decide) (fun c_153 => ?_) (fun c_153 => absurd c_153 (nI_neg (by decide) (by omega)))
        refine lv_iload hx hb dX5_typed_207 (lv_at hl 0 rfl) ?_
        exact c_iret (v := r_143) hx hb hr hK hP hD hS hC hh hpp ⟨aw_147t, ⟨tx_150A, by rw [tx_150e]; exact ⟨⟨tx_150t, tx_150gs, tx_150yc⟩, fun h => absurd h tx_150zz, fun _ => ⟨tx_150v, tx_150p, tx_150p1, tx_150p2, tx_150p3⟩⟩⟩⟩ dX5_typed_209 hlocks
      · skip
        refine lv_istore (lv' := [(4, .int r_143), (0, .ref (ga G 4)), (1, .int (nI n9)), (2, .int (nI lv)), (3, .int (nI dp))]) hx hb dX5_typed_186 hl (by decide) rfl (fun ls hl => ?_)
        refine lv_iload hx hb dX5_typed_188 (lv_at hl 0 rfl) ?_
        refine lv_if_ge (tgt := 207) hx hb dX5_typed_190 (by decide) (fun c_154 => absurd c_154 (Int32.not_le.mpr tx_150ng)) (fun c_154 => ?_)
        refine lv_aload_n hx hb dX5_typed_193 rfl (lv_at hl 1 rfl) ?_
        refine va_get (D := gD G) (ci := 5) (v := .int ((-9))) (C := RX5) (T := TX5) (N := 15) hx hb htu cu_in5 hown hK hP 4 cw_4 rfl 13 (by decide) (htu _ C_58) (fun _ h9 => h9) (m_v tx_150p2) dX5_typed_194 ?_
        refine lv_bipush (v := (-9)) hx hb dX5_typed_197 (by decide) ?_
        refine lv_icmp_ne (tgt := 207) hx hb dX5_typed_199 (by decide) (fun c_155 => absurd (by decide) c_155) (fun c_155 => ?_)
        refine lv_aload_n hx hb dX5_typed_202 rfl (lv_at hl 1 rfl) ?_
        refine lv_iload_n hx hb dX5_typed_203 rfl (lv_at hl 2 rfl) ?_
        refine c_put4_13 (x := (nI n9)) hx hb htu hown hK hP hD hS (htu _ C_58) dX5_typed_204 (fun H locs hP hD hS => ?_)
        have S_156h : HS S (cO S_144 13 (nI n9)) := hh
        have S_156c : CL (cO S_144 13 (nI n9)) := hC
        have S_156p : PT S ≤ PT (cO S_144 13 (nI n9)) := hpp
        refine c_eq (S1 := S_144) (S2 := cO S_144 13 (nI n9)) rfl ?_
        have S_156w : AW [6, 7, 8, 9, 16, 14, 10, 11, 12, 13, 17, 18, 23, 24, 25, 26, 35] [8, 9, 10, 12, 13] S (cO S_144 13 (nI n9)) := (AW.o aw_147t (by decide))
        have hh := S_156h
        have hC := S_156c
        clear hpp
        have hpp := S_156p
        clear S_156p
        have tj_157 : TJ (cO S_144 13 (nI n9)) N := tj_149
        refine lv_iload hx hb dX5_typed_207 (lv_at hl 0 rfl) ?_
        exact c_iret (v := r_143) hx hb hr hK hP hD hS hC hh hpp ⟨S_156w, ⟨TX.o13 tx_150A, by rw [tx_150e]; exact ⟨⟨tx_150t, tx_150gs, yc_o13 tx_150yc⟩, fun h => absurd h tx_150zz, fun _ => ⟨tx_150v, n9, Nat.lt_of_lt_of_le hn hT.1.1, cO_s, tx_150p3⟩⟩⟩⟩ dX5_typed_209 hlocks

theorem x_typed_all : ∀ fu, xTypedAt fu := by
  intro fu
  induction fu with
  | zero => exact fun l G S T V X Y Z q N dp lv tr mk rk top gs z n9 tm hC hU hq h15 hT hdp hlv hY2 hE hO hrk hn htp h11 hcv hz hkq hm0 h8 htm h0 hzq h13 hk2 hgc Hs => x_typed_0 l G S T V X Y Z q N dp lv tr mk rk top gs z n9 tm hC hU hq h15 hT hdp hlv hY2 hE hO hrk hn htp h11 hcv hz hkq hm0 h8 htm h0 hzq h13 hk2 hgc Hs
  | succ fu ih => exact fun l G S T V X Y Z q N dp lv tr mk rk top gs z n9 tm hC hU hq h15 hT hdp hlv hY2 hE hO hrk hn htp h11 hcv hz hkq hm0 h8 htm h0 hzq h13 hk2 hgc Hs => x_typed_s l G S fu T V X Y Z q N dp lv tr mk rk top gs z n9 tm hC ih hU hq h15 hT hdp hlv hY2 hE hO hrk hn htp h11 hcv hz hkq hm0 h8 htm h0 hzq h13 hk2 hgc Hs

