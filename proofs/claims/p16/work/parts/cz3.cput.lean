def xpPutAt (fu : Nat) : Prop := ∀ (l : Launch) (G : cG) (S : cS) (ws : wmS) (al : Nat) (f9 : Nat) (tr : aM) (N : Nat) (dp : Nat → Nat) (mk : Nat → Int32) (L9 : List Int32) (d9 : Nat) (v9 : Nat) (hC : CL S) (hR : RCw S ws al f9) (hT : TJ S N) (hE : TC S tr mk N) (hWf : wmW tr N dp ws) (hS9 : SG S 402 L9) (hcap : L9.length ≤ 200) (hv : v9 < wnv ws) (hd : d9 + fu = 201) (Hs : Heap), Met l yX6_putValue (wC yX6_putValue cX6_putValue 6 none) (cRm S (fu + 8) (30 * fu + 200)) (cPc G S Hs [.ref (ga G 5), .int (nI v9), .int (nI d9)]) (cQv G S Hs (fun u => AW [] [202] S u ∧ (SG u 402 (wmt tr ws fu v9 L9)))) (CC - PT S) (12 * (CC - PT S)) (cA G S Hs.size)

set_option maxHeartbeats 4000000 in
set_option maxRecDepth 100000 in
/-- putValue -/
theorem xp_put_0 (l : Launch) (G : cG) (S : cS) (ws : wmS) (al : Nat) (f9 : Nat) (tr : aM) (N : Nat) (dp : Nat → Nat) (mk : Nat → Int32) (L9 : List Int32) (d9 : Nat) (v9 : Nat) (hC : CL S) (hR : RCw S ws al f9) (hT : TJ S N) (hE : TC S tr mk N) (hWf : wmW tr N dp ws) (hS9 : SG S 402 L9) (hcap : L9.length ≤ 200) (hv : v9 < wnv ws) (hd : d9 + 0 = 201) (Hs : Heap) : Met l yX6_putValue (wC yX6_putValue cX6_putValue 6 none) (cRm S (0 + 8) (30 * 0 + 200)) (cPc G S Hs [.ref (ga G 5), .int (nI v9), .int (nI d9)]) (cQv G S Hs (fun u => AW [] [202] S u ∧ (SG u 402 (wmt tr ws 0 v9 L9)))) (CC - PT S) (12 * (CC - PT S)) (cA G S Hs.size) := by
  refine Met.ofW (cc := cX6_putValue) (maxL := 6) (ret := none) (by decide) rfl ?_
  intro p e s m args below meth c s₁ B hml hv
  obtain ⟨rfl, hsz, hP, hK, hD0, -⟩ := hv
  have hx := B.exec
  have hb := B.bytes
  have hr := B.returns
  have htu : ∀ w ∈ CU, w.before _ s = true := fun w h => atoms_spec (ws := (wC yX6_putValue cX6_putValue 6 none)) B.pre w (List.mem_cons_of_mem _ h)
  have hown : s.vm.findClass RX6 = some m.cls := findClass_of_methodNamed B.named
  have hlocks := B.notSynchronized
  subst hsz
  have hD : cD (cA G S s.heap.size) G S := cD_self hD0
  have hl := lv_entry ([.ref (ga G 5), .int (nI v9), .int (nI d9)]) (n := 6) (Nat.le_of_ble_eq_true rfl)
  rw [lg_entry_eq]
  generalize (lg_sl ([.ref (ga G 5), .int (nI v9), .int (nI d9)]) ++ List.replicate (6 - (lg_sl ([.ref (ga G 5), .int (nI v9), .int (nI d9)])).length) Slot.unset).toArray = ls at hl ⊢
  have hl : lv_has ls 6 [(0, .ref (ga G 5)), (1, .int (nI v9)), (2, .int (nI d9))] := hl
  obtain ⟨H, hHe⟩ : ∃ H : Heap, H = s.heap := ⟨_, rfl⟩
  rw [← hHe] at hP
  have hS : va_S (cA G S s.heap.size) s.heap H [] := by rw [hHe]; exact va_S.rf
  have hh : HS S S := HS.rf
  have hpp : PT S ≤ PT S := Nat.le_refl _
  have hB9 := hC.1
  refine W.heq hHe ?_
  refine c_ent (S := S) ?_
  have hsz := hR.sz
  refine lv_aload_n hx hb dX6_putValue_0 rfl (lv_at hl 0 rfl) ?_
  refine va_get (D := gD G) (ci := 6) (v := .ref (ga G 8)) (C := RX6) (T := TX6) (N := 14) hx hb htu cu_in6 hown hK hP 5 cw_5 rfl 1 (by decide) (htu _ C_150) (fun _ h9 => h9) rfl dX6_putValue_1 ?_
  have hC0 := hC
  refine c_ci (c_runV (As := []) (rest := []) (q0 := 8) (ci := 1) ⟨hx, hb, hml, hown, htu⟩ (s_isFull_8 l G S ((L9).length) hC hS9.1 hcap H) (cwV 0 htu hU_X6_150 rfl rfl rfl (by decide +kernel) ⟨show 0 + 1 ≤ 0 + 8 by omega, show 8 + (1 + 11) + 0 ≤ 30 * 0 + 200 by omega⟩) hP hK hD hC hpp cw_8 rfl rfl hl.1 rfl (lv_room (Nat.le_of_ble_eq_true rfl)) dX6_putValue_4) hS hD hh hpp (fun r_1 S_2 H locs hw_3 hP hD hS hC hh hs_4 hpp => ?_)
  obtain ⟨-, hu9, hw_3⟩ := hw_3
  have hu9 := hu9.symm
  subst hu9
  refine lv_if_ne (tgt := 17) hx hb dX6_putValue_7 (by decide) (fun c_5 => ?_) (fun c_5 => ?_)
  · skip
    exact c_vret hx hb hr hK hP hD hS hC hh hpp ⟨AW.rf, (by rw [wmt_full (fun q => hw_3.elim (fun z => absurd q (Nat.not_lt.mpr z.2)) (fun z => c_5 z.1))]; exact hS9)⟩ dX6_putValue_17 hlocks
  · skip
    have hnf : L9.length < 200 := hw_3.elim (fun z => absurd z.1 (by intro q; exact absurd (c_5.symm.trans q) (by decide))) (fun z => z.2)
    refine lv_iload_n hx hb dX6_putValue_10 rfl (lv_at hl 2 rfl) ?_
    refine lv_sipush (v := 200) hx hb dX6_putValue_11 (by decide) ?_
    refine lv_icmp_le (tgt := 18) hx hb dX6_putValue_14 (by decide) (fun c_6 => absurd c_6 (fun h => by have h2 := (nI_leI (a := d9) (b := 200) (by omega) (by omega)).mp h; omega)) (fun c_6 => ?_)
    exact c_vret hx hb hr hK hP hD hS hC hh hpp ⟨AW.rf, hS9⟩ dX6_putValue_17 hlocks

set_option maxHeartbeats 4000000 in
set_option maxRecDepth 100000 in
/-- putValue -/
theorem xp_put_s (l : Launch) (G : cG) (S : cS) (fu : Nat) (ws : wmS) (al : Nat) (f9 : Nat) (tr : aM) (N : Nat) (dp : Nat → Nat) (mk : Nat → Int32) (L9 : List Int32) (d9 : Nat) (v9 : Nat) (hC : CL S) (ih : xpPutAt fu) (hR : RCw S ws al f9) (hT : TJ S N) (hE : TC S tr mk N) (hWf : wmW tr N dp ws) (hS9 : SG S 402 L9) (hcap : L9.length ≤ 200) (hv : v9 < wnv ws) (hd : d9 + (fu + 1) = 201) (Hs : Heap) : Met l yX6_putValue (wC yX6_putValue cX6_putValue 6 none) (cRm S ((fu + 1) + 8) (30 * (fu + 1) + 200)) (cPc G S Hs [.ref (ga G 5), .int (nI v9), .int (nI d9)]) (cQv G S Hs (fun u => AW [] [202] S u ∧ (SG u 402 (wmt tr ws (fu + 1) v9 L9)))) (CC - PT S) (12 * (CC - PT S)) (cA G S Hs.size) := by
  refine Met.ofW (cc := cX6_putValue) (maxL := 6) (ret := none) (by decide) rfl ?_
  intro p e s m args below meth c s₁ B hml hv
  obtain ⟨rfl, hsz, hP, hK, hD0, -⟩ := hv
  have hx := B.exec
  have hb := B.bytes
  have hr := B.returns
  have htu : ∀ w ∈ CU, w.before _ s = true := fun w h => atoms_spec (ws := (wC yX6_putValue cX6_putValue 6 none)) B.pre w (List.mem_cons_of_mem _ h)
  have hown : s.vm.findClass RX6 = some m.cls := findClass_of_methodNamed B.named
  have hlocks := B.notSynchronized
  subst hsz
  have hD : cD (cA G S s.heap.size) G S := cD_self hD0
  have hl := lv_entry ([.ref (ga G 5), .int (nI v9), .int (nI d9)]) (n := 6) (Nat.le_of_ble_eq_true rfl)
  rw [lg_entry_eq]
  generalize (lg_sl ([.ref (ga G 5), .int (nI v9), .int (nI d9)]) ++ List.replicate (6 - (lg_sl ([.ref (ga G 5), .int (nI v9), .int (nI d9)])).length) Slot.unset).toArray = ls at hl ⊢
  have hl : lv_has ls 6 [(0, .ref (ga G 5)), (1, .int (nI v9)), (2, .int (nI d9))] := hl
  obtain ⟨H, hHe⟩ : ∃ H : Heap, H = s.heap := ⟨_, rfl⟩
  rw [← hHe] at hP
  have hS : va_S (cA G S s.heap.size) s.heap H [] := by rw [hHe]; exact va_S.rf
  have hh : HS S S := HS.rf
  have hpp : PT S ≤ PT S := Nat.le_refl _
  have hB9 := hC.1
  refine W.heq hHe ?_
  refine c_ent (S := S) ?_
  have hsz := hR.sz
  refine lv_aload_n hx hb dX6_putValue_0 rfl (lv_at hl 0 rfl) ?_
  refine va_get (D := gD G) (ci := 6) (v := .ref (ga G 8)) (C := RX6) (T := TX6) (N := 14) hx hb htu cu_in6 hown hK hP 5 cw_5 rfl 1 (by decide) (htu _ C_150) (fun _ h9 => h9) rfl dX6_putValue_1 ?_
  have hC0 := hC
  refine c_ci (c_runV (As := []) (rest := []) (q0 := 8) (ci := 1) ⟨hx, hb, hml, hown, htu⟩ (s_isFull_8 l G S ((L9).length) hC hS9.1 hcap H) (cwV 0 htu hU_X6_150 rfl rfl rfl (by decide +kernel) ⟨show 0 + 1 ≤ (fu + 1) + 8 by omega, show 8 + (1 + 11) + 0 ≤ 30 * (fu + 1) + 200 by omega⟩) hP hK hD hC hpp cw_8 rfl rfl hl.1 rfl (lv_room (Nat.le_of_ble_eq_true rfl)) dX6_putValue_4) hS hD hh hpp (fun r_1 S_2 H locs hw_3 hP hD hS hC hh hs_4 hpp => ?_)
  obtain ⟨-, hu9, hw_3⟩ := hw_3
  have hu9 := hu9.symm
  subst hu9
  refine lv_if_ne (tgt := 17) hx hb dX6_putValue_7 (by decide) (fun c_5 => ?_) (fun c_5 => ?_)
  · skip
    exact c_vret hx hb hr hK hP hD hS hC hh hpp ⟨AW.rf, (by rw [wmt_full (fun q => hw_3.elim (fun z => absurd q (Nat.not_lt.mpr z.2)) (fun z => c_5 z.1))]; exact hS9)⟩ dX6_putValue_17 hlocks
  · skip
    have hnf : L9.length < 200 := hw_3.elim (fun z => absurd z.1 (by intro q; exact absurd (c_5.symm.trans q) (by decide))) (fun z => z.2)
    refine lv_iload_n hx hb dX6_putValue_10 rfl (lv_at hl 2 rfl) ?_
    refine lv_sipush (v := 200) hx hb dX6_putValue_11 (by decide) ?_
    refine lv_icmp_le (tgt := 18) hx hb dX6_putValue_14 (by decide) (fun c_6 => ?_) (fun c_6 => absurd ((nI_leI (a := d9) (b := 200) (by omega) (by omega)).mpr (by omega)) c_6)
    refine lv_aload_n hx hb dX6_putValue_18 rfl (lv_at hl 0 rfl) ?_
    refine va_get (D := gD G) (ci := 6) (v := .ref (kH S 28)) (C := RX6) (T := TX6) (N := 14) hx hb htu cu_in6 hown hK hP 5 cw_5 rfl 3 (by decide) (htu _ C_153) (fun _ h9 => h9) rfl dX6_putValue_19 ?_
    refine lv_iload_n hx hb dX6_putValue_22 rfl (lv_at hl 1 rfl) ?_
    have hC0 := hC
    refine c_ci (c_runV (As := [.int (nI v9)]) (rest := []) (q0 := (2 * 28 + 13)) (ci := 0) ⟨hx, hb, hml, hown, htu⟩ (c_getA l G S 28 (lt35 (by decide)) hC (kH S 28) rfl (nI v9) H) (cwV 1 htu hU_X6_131 rfl rfl rfl (by decide +kernel) ⟨show 0 + 1 ≤ (fu + 1) + 8 by omega, show 8 + (2 + 11) + 0 ≤ 30 * (fu + 1) + 200 by omega⟩) hP hK hD hC hpp (c_hd rfl (cw_row (lt35 (by decide)))) rfl rfl hl.1 rfl (lv_room (Nat.le_of_ble_eq_true rfl)) dX6_putValue_23) hS hD hh hpp (fun r_7 S_8 H locs hw_9 hP hD hS hC hh hs_10 hpp => ?_)
    obtain ⟨hu9, hw_9⟩ := hw_9
    have hu9 := hu9.symm
    subst hu9
    refine lv_istore_n (lv' := [(3, .int r_7), (0, .ref (ga G 5)), (1, .int (nI v9)), (2, .int (nI d9))]) hx hb dX6_putValue_26 rfl hl (by decide) rfl (fun ls hl => ?_)
    refine lv_aload_n hx hb dX6_putValue_27 rfl (lv_at hl 1 rfl) ?_
    refine va_get (D := gD G) (ci := 6) (v := .ref (kH S 27)) (C := RX6) (T := TX6) (N := 14) hx hb htu cu_in6 hown hK hP 5 cw_5 rfl 2 (by decide) (htu _ C_152) (fun _ h9 => h9) rfl dX6_putValue_28 ?_
    refine lv_iload_n hx hb dX6_putValue_31 rfl (lv_at hl 2 rfl) ?_
    have hC0 := hC
    refine c_ci (c_runV (As := [.int (nI v9)]) (rest := []) (q0 := (2 * 27 + 13)) (ci := 0) ⟨hx, hb, hml, hown, htu⟩ (c_getA l G S 27 (lt35 (by decide)) hC (kH S 27) rfl (nI v9) H) (cwV 1 htu hU_X6_131 rfl rfl rfl (by decide +kernel) ⟨show 0 + 1 ≤ (fu + 1) + 8 by omega, show 8 + (2 + 11) + 0 ≤ 30 * (fu + 1) + 200 by omega⟩) hP hK hD hC hpp (c_hd rfl (cw_row (lt35 (by decide)))) rfl rfl hl.1 rfl (lv_room (Nat.le_of_ble_eq_true rfl)) dX6_putValue_32) hS hD hh hpp (fun r_11 S_12 H locs hw_13 hP hD hS hC hh hs_14 hpp => ?_)
    obtain ⟨hu9, hw_13⟩ := hw_13
    have hu9 := hu9.symm
    subst hu9
    obtain rfl : r_11 = nI (vso ws v9) := hw_13.trans (hR.g27 hv)
    rcases Decidable.em (nI (vso ws v9) = 0) with c_15 | c_15
    · skip
      refine lv_tableIn (tgt := 60) hx hb dX6_putValue_35 (by rw [c_15]; decide) (by rw [c_15]; decide) (by rw [c_15]; rfl) (by decide) ?_
      have hso : vso ws v9 = 0 := (nI_eq (a := vso ws v9) (b := 0) (by have := (hWf.1 v9 hv).1; omega) (by omega)).mp c_15
      obtain rfl : r_7 = ws.2.1 v9 := hw_9.trans (hR.g28 hv (by omega))
      refine lv_aload_n hx hb dX6_putValue_60 rfl (lv_at hl 1 rfl) ?_
      refine va_get (D := gD G) (ci := 6) (v := .ref (ga G 8)) (C := RX6) (T := TX6) (N := 14) hx hb htu cu_in6 hown hK hP 5 cw_5 rfl 1 (by decide) (htu _ C_150) (fun _ h9 => h9) rfl dX6_putValue_61 ?_
      refine lv_iload_n hx hb dX6_putValue_64 rfl (lv_at hl 0 rfl) ?_
      have hC0 := hC
      refine c_cv (c_runV (As := [.int (ws.2.1 v9)]) (rest := []) (q0 := 8) (ci := 1) ⟨hx, hb, hml, hown, htu⟩ (xs_putFigures_8 l G S L9 (ws.2.1 v9) hC hS9 hcap H) (cwV 1 htu hU_X6_154 rfl rfl rfl (by decide +kernel) ⟨show 1 + 1 ≤ (fu + 1) + 8 by omega, show 8 + (9 + 11) + 21 ≤ 30 * (fu + 1) + 200 by omega⟩) hP hK hD hC hpp cw_8 rfl rfl hl.1 rfl (lv_room (Nat.le_of_ble_eq_true rfl)) dX6_putValue_65) hS hD hh hpp (fun S_17 H locs hw_18 hP hD hS hC hh hs_19 hpp => ?_)
      try dsimp only at hw_18
      have aw_20 : AW [] [202] S S_17 := hw_18.1
      have aw_20t : AW [] [202] S S_17 := AW.rf.tr (aw_20.mono (by decide) (by decide))
      have tj_21 : TJ S_17 N := TJ.aw hT aw_20 (by decide)
      have sg_22h : SG S_17 402 (lputs 200 L9 (figs (ws.2.1 v9))) := hw_18.2
      have sg_22c : (lputs 200 L9 (figs (ws.2.1 v9))).length ≤ 200 := (lputs_len _ _ hcap).1
      exact c_vret hx hb hr hK hP hD hS hC hh hpp ⟨aw_20t, (by rw [wmt_0 hnf hso]; exact sg_22h)⟩ dX6_putValue_68 hlocks
    rcases Decidable.em (nI (vso ws v9) = 1) with c_23 | c_23
    · skip
      refine lv_tableIn (tgt := 69) hx hb dX6_putValue_35 (by rw [c_23]; decide) (by rw [c_23]; decide) (by rw [c_23]; rfl) (by decide) ?_
      have hso : vso ws v9 = 1 := (nI_eq (a := vso ws v9) (b := 1) (by have := (hWf.1 v9 hv).1; omega) (by omega)).mp c_23
      obtain rfl : r_7 = ws.2.1 v9 := hw_9.trans (hR.g28 hv (by omega))
      refine lv_aload_n hx hb dX6_putValue_69 rfl (lv_at hl 1 rfl) ?_
      refine va_get (D := gD G) (ci := 6) (v := .ref (ga G 8)) (C := RX6) (T := TX6) (N := 14) hx hb htu cu_in6 hown hK hP 5 cw_5 rfl 1 (by decide) (htu _ C_150) (fun _ h9 => h9) rfl dX6_putValue_70 ?_
      refine lv_iload_n hx hb dX6_putValue_73 rfl (lv_at hl 0 rfl) ?_
      refine lv_iconst (v := 1) hx hb dX6_putValue_74 (by decide) ?_
      refine lv_icmp_ne (tgt := 83) hx hb dX6_putValue_75 (by decide) (fun c_24 => ?_) (fun c_24 => ?_)
      · skip
        refine lv_bipush (v := 110) hx hb dX6_putValue_83 (by decide) ?_
        have hC0 := hC
        refine c_cv (c_runV (As := [.int 110]) (rest := []) (q0 := 8) (ci := 1) ⟨hx, hb, hml, hown, htu⟩ (xs_put_8 l G S L9 110 hC hS9 hcap H) (cwV 1 htu hU_X6_157 rfl rfl rfl (by decide +kernel) ⟨show 0 + 1 ≤ (fu + 1) + 8 by omega, show 8 + (2 + 11) + 0 ≤ 30 * (fu + 1) + 200 by omega⟩) hP hK hD hC hpp cw_8 rfl rfl hl.1 rfl (lv_room (Nat.le_of_ble_eq_true rfl)) dX6_putValue_85) hS hD hh hpp (fun S_26 H locs hw_27 hP hD hS hC hh hs_28 hpp => ?_)
        try dsimp only at hw_27
        have aw_29 : AW [] [202] S S_26 := hw_27.1
        have aw_29t : AW [] [202] S S_26 := AW.rf.tr (aw_29.mono (by decide) (by decide))
        have tj_30 : TJ S_26 N := TJ.aw hT aw_29 (by decide)
        have sg_31h : SG S_26 402 (lput 200 L9 (b8 110)) := hw_27.2
        have sg_31c : (lput 200 L9 (b8 110)).length ≤ 200 := (lput_len hcap).1
        exact c_vret hx hb hr hK hP hD hS hC hh hpp ⟨aw_29t, (by rw [wmt_1 hnf hso, if_neg c_24]; exact sg_31h)⟩ dX6_putValue_88 hlocks
      · skip
        refine lv_bipush (v := 121) hx hb dX6_putValue_78 (by decide) ?_
        refine lv_goto (tgt := 85) hx hb dX6_putValue_80 (by decide) ?_
        have hC0 := hC
        refine c_cv (c_runV (As := [.int 121]) (rest := []) (q0 := 8) (ci := 1) ⟨hx, hb, hml, hown, htu⟩ (xs_put_8 l G S L9 121 hC hS9 hcap H) (cwV 1 htu hU_X6_157 rfl rfl rfl (by decide +kernel) ⟨show 0 + 1 ≤ (fu + 1) + 8 by omega, show 8 + (2 + 11) + 0 ≤ 30 * (fu + 1) + 200 by omega⟩) hP hK hD hC hpp cw_8 rfl rfl hl.1 rfl (lv_room (Nat.le_of_ble_eq_true rfl)) dX6_putValue_85) hS hD hh hpp (fun S_33 H locs hw_34 hP hD hS hC hh hs_35 hpp => ?_)
        try dsimp only at hw_34
        have aw_36 : AW [] [202] S S_33 := hw_34.1
        have aw_36t : AW [] [202] S S_33 := AW.rf.tr (aw_36.mono (by decide) (by decide))
        have tj_37 : TJ S_33 N := TJ.aw hT aw_36 (by decide)
        have sg_38h : SG S_33 402 (lput 200 L9 (b8 121)) := hw_34.2
        have sg_38c : (lput 200 L9 (b8 121)).length ≤ 200 := (lput_len hcap).1
        exact c_vret hx hb hr hK hP hD hS hC hh hpp ⟨aw_36t, (by rw [wmt_1 hnf hso, if_pos c_24]; exact sg_38h)⟩ dX6_putValue_88 hlocks
    rcases Decidable.em (nI (vso ws v9) = 2) with c_39 | c_39
    · skip
      refine lv_tableIn (tgt := 89) hx hb dX6_putValue_35 (by rw [c_39]; decide) (by rw [c_39]; decide) (by rw [c_39]; rfl) (by decide) ?_
      have hso : vso ws v9 = 2 := (nI_eq (a := vso ws v9) (b := 2) (by have := (hWf.1 v9 hv).1; omega) (by omega)).mp c_39
      refine lv_aload_n hx hb dX6_putValue_89 rfl (lv_at hl 1 rfl) ?_
      refine va_get (D := gD G) (ci := 6) (v := .ref (ga G 8)) (C := RX6) (T := TX6) (N := 14) hx hb htu cu_in6 hown hK hP 5 cw_5 rfl 1 (by decide) (htu _ C_150) (fun _ h9 => h9) rfl dX6_putValue_90 ?_
      refine lv_bipush (v := 102) hx hb dX6_putValue_93 (by decide) ?_
      have hC0 := hC
      refine c_cv (c_runV (As := [.int 102]) (rest := []) (q0 := 8) (ci := 1) ⟨hx, hb, hml, hown, htu⟩ (xs_put_8 l G S L9 102 hC hS9 hcap H) (cwV 1 htu hU_X6_157 rfl rfl rfl (by decide +kernel) ⟨show 0 + 1 ≤ (fu + 1) + 8 by omega, show 8 + (2 + 11) + 0 ≤ 30 * (fu + 1) + 200 by omega⟩) hP hK hD hC hpp cw_8 rfl rfl hl.1 rfl (lv_room (Nat.le_of_ble_eq_true rfl)) dX6_putValue_95) hS hD hh hpp (fun S_41 H locs hw_42 hP hD hS hC hh hs_43 hpp => ?_)
      try dsimp only at hw_42
      have aw_44 : AW [] [202] S S_41 := hw_42.1
      have aw_44t : AW [] [202] S S_41 := AW.rf.tr (aw_44.mono (by decide) (by decide))
      have tj_45 : TJ S_41 N := TJ.aw hT aw_44 (by decide)
      have sg_46h : SG S_41 402 (lput 200 L9 (b8 102)) := hw_42.2
      have sg_46c : (lput 200 L9 (b8 102)).length ≤ 200 := (lput_len hcap).1
      exact c_vret hx hb hr hK hP hD hS hC hh hpp ⟨aw_44t, (by rw [wmt_2 hnf hso]; exact sg_46h)⟩ dX6_putValue_98 hlocks
    have hout : (nI (vso ws v9)).toInt < 0 ∨ 2 < (nI (vso ws v9)).toInt := tb_out (nI (vso ws v9)) 0 2 (fun z h1 h2 e => by
      rcases (show z = 0 ∨ z = 1 ∨ z = 2 by omega) with rfl | rfl | rfl
      · exact c_15 (Int32.toInt_inj.mp (e.trans (by decide)))
      · exact c_23 (Int32.toInt_inj.mp (e.trans (by decide)))
      · exact c_39 (Int32.toInt_inj.mp (e.trans (by decide))))
    refine lv_tableOut (tgt := 99) hx hb dX6_putValue_35 hout (by decide) ?_
    have hso : vso ws v9 = 3 := by
      have h3 := (hWf.1 v9 hv).1
      have g0 : vso ws v9 ≠ 0 := fun z => c_15 (by rw [z]; rfl)
      have g1 : vso ws v9 ≠ 1 := fun z => c_23 (by rw [z]; rfl)
      have g2 : vso ws v9 ≠ 2 := fun z => c_39 (by rw [z]; rfl)
      omega
    obtain rfl : r_7 = nI (vno ws v9) := hw_9.trans (hR.g28n hv (Or.inr hso))
    obtain ⟨x1_, x2_, x3_, x4_⟩ := (hWf.1 v9 hv).2.2 hso
    have hnN := hT.1.1
    have h26 := (hE.2 _ x1_).2.2.2.2.1
    refine lv_aload_n hx hb dX6_putValue_99 rfl (lv_at hl 1 rfl) ?_
    refine va_get (D := gD G) (ci := 6) (v := .ref (ga G 8)) (C := RX6) (T := TX6) (N := 14) hx hb htu cu_in6 hown hK hP 5 cw_5 rfl 1 (by decide) (htu _ C_150) (fun _ h9 => h9) rfl dX6_putValue_100 ?_
    refine lv_bipush (v := 123) hx hb dX6_putValue_103 (by decide) ?_
    have hC0 := hC
    refine c_cv (c_runV (As := [.int 123]) (rest := []) (q0 := 8) (ci := 1) ⟨hx, hb, hml, hown, htu⟩ (xs_put_8 l G S L9 123 hC hS9 hcap H) (cwV 1 htu hU_X6_157 rfl rfl rfl (by decide +kernel) ⟨show 0 + 1 ≤ (fu + 1) + 8 by omega, show 8 + (2 + 11) + 0 ≤ 30 * (fu + 1) + 200 by omega⟩) hP hK hD hC hpp cw_8 rfl rfl hl.1 rfl (lv_room (Nat.le_of_ble_eq_true rfl)) dX6_putValue_105) hS hD hh hpp (fun S_48 H locs hw_49 hP hD hS hC hh hs_50 hpp => ?_)
    try dsimp only at hw_49
    have aw_51 : AW [] [202] S S_48 := hw_49.1
    have aw_51t : AW [] [202] S S_48 := AW.rf.tr (aw_51.mono (by decide) (by decide))
    have tj_52 : TJ S_48 N := TJ.aw hT aw_51 (by decide)
    have sg_53h : SG S_48 402 (lput 200 L9 (b8 123)) := hw_49.2
    have sg_53c : (lput 200 L9 (b8 123)).length ≤ 200 := (lput_len hcap).1
    refine lv_aload_n hx hb dX6_putValue_108 rfl (lv_at hl 1 rfl) ?_
    refine va_get (D := gD G) (ci := 6) (v := .ref (ga G 1)) (C := RX6) (T := TX6) (N := 14) hx hb htu cu_in6 hown hK hP 5 cw_5 rfl 0 (by decide) (htu _ C_162) (fun _ h9 => h9) rfl dX6_putValue_109 ?_
    refine lv_iload_n hx hb dX6_putValue_112 rfl (lv_at hl 0 rfl) ?_
    have hC0 := hC
    refine c_ci (c_runV (As := [.int (nI (vno ws v9))]) (rest := []) (q0 := 1) (ci := 3) ⟨hx, hb, hml, hown, htu⟩ (tt_partCount l G S_48 N (nI (vno ws v9)) hC tj_52.1 H) (cwV 1 htu hU_X6_141 rfl rfl rfl (by decide +kernel) ⟨show 1 + 1 ≤ (fu + 1) + 8 by omega, show 8 + (2 + 11) + 21 ≤ 30 * (fu + 1) + 200 by omega⟩) hP hK hD hC hpp cw_1 rfl rfl hl.1 rfl (lv_room (Nat.le_of_ble_eq_true rfl)) dX6_putValue_113) hS hD hh hpp (fun r_54 S_55 H locs hw_56 hP hD hS hC hh hs_57 hpp => ?_)
    obtain ⟨-, hu9, hw_56⟩ := hw_56
    have hu9 := hu9.symm
    subst hu9
    have te_58 : TC S_48 tr mk N := hE.aw aw_51t (by decide)
    obtain rfl : r_54 = nI (tr 2 (vno ws v9)) := hw_56.trans (te_58.cnt x1_)
    refine lv_istore (lv' := [(4, .int (nI (tr 2 (vno ws v9)))), (3, .int (nI (vno ws v9))), (0, .ref (ga G 5)), (1, .int (nI v9)), (2, .int (nI d9))]) hx hb dX6_putValue_116 hl (by decide) rfl (fun ls hl => ?_)
    refine lv_iconst (v := 0) hx hb dX6_putValue_118 (by decide) ?_
    refine lv_istore (lv' := [(5, .int 0), (4, .int (nI (tr 2 (vno ws v9)))), (3, .int (nI (vno ws v9))), (0, .ref (ga G 5)), (1, .int (nI v9)), (2, .int (nI d9))]) hx hb dX6_putValue_119 hl (by decide) rfl (fun ls hl => ?_)
    refine w_loop (fun j H locs k sl g => ∃ (S1 : cS) (i : Nat) (Lq : List Int32) (ls : Array Slot), CL S1 ∧ HS S S1 ∧ PT S ≤ PT S1 ∧ AW [] [202] S S1 ∧ i + j = tr 2 (vno ws v9) ∧ SG S1 402 Lq ∧ Lq.length ≤ 200 ∧ lput 200 (wmtl tr (vno ws v9) (wmt tr ws fu) (ws.2.2 v9) j i Lq) (b8 125) = wmt tr ws (fu + 1) v9 L9 ∧ k = PT S1 - PT S ∧ sl = 12 * (PT S1 - PT S) ∧ cP G S1 H ∧ cD (cA G S s.heap.size) G S1 ∧ va_S (cA G S s.heap.size) s.heap H locs ∧ lv_has ls 6 [(0, .ref (ga G 5)), (1, .int (nI v9)), (2, .int (nI d9)), (3, .int (nI (vno ws v9))), (4, .int (nI (tr 2 (vno ws v9)))), (5, .int (nI i))] ∧ g = F0 m 121 ls []) ?_ ?_ ((tr 2 (vno ws v9))) _ _ _ _ _ ⟨S_48, 0, (lput 200 L9 (b8 123)), ls, hC, hh, hpp, aw_51t, by omega, sg_53h, sg_53c, (wmt_3 hnf hso).symm, rfl, rfl, hP, hD, hS, lv_sub hl [3, 4, 5, 2, 1, 0] rfl, rfl⟩
    · intro H locs k sl g hI
      obtain ⟨S1, i, Lq, ls, hC, hh, hpp, hAW, hp0, hp1, hp2, hp3, rfl, rfl, hP, hD, hS, hl, rfl⟩ := hI
      have tj1 : TJ S1 N := TJ.aw hT hAW (by decide)
      have te1 : TC S1 tr mk N := hE.aw hAW (by decide)
      refine lv_iload hx hb dX6_putValue_121 (lv_at hl 5 rfl) ?_
      refine lv_iload hx hb dX6_putValue_123 (lv_at hl 4 rfl) ?_
      refine lv_icmp_ge (tgt := 186) hx hb dX6_putValue_125 (by decide) (fun c_59 => ?_) (fun c_59 => absurd ((nI_leI (a := tr 2 (vno ws v9)) (b := i) (by omega) (by omega)).mpr (by omega)) c_59)
      refine lv_aload_n hx hb dX6_putValue_186 rfl (lv_at hl 0 rfl) ?_
      refine va_get (D := gD G) (ci := 6) (v := .ref (ga G 8)) (C := RX6) (T := TX6) (N := 14) hx hb htu cu_in6 hown hK hP 5 cw_5 rfl 1 (by decide) (htu _ C_150) (fun _ h9 => h9) rfl dX6_putValue_187 ?_
      refine lv_bipush (v := 125) hx hb dX6_putValue_190 (by decide) ?_
      have hC0 := hC
      refine c_cv (c_runV (As := [.int 125]) (rest := []) (q0 := 8) (ci := 1) ⟨hx, hb, hml, hown, htu⟩ (xs_put_8 l G S1 Lq 125 hC hp1 hp2 H) (cwV 1 htu hU_X6_157 rfl rfl rfl (by decide +kernel) ⟨show 0 + 1 ≤ (fu + 1) + 8 by omega, show 8 + (2 + 11) + 0 ≤ 30 * (fu + 1) + 200 by omega⟩) hP hK hD hC hpp cw_8 rfl rfl hl.1 rfl (lv_room (Nat.le_of_ble_eq_true rfl)) dX6_putValue_192) hS hD hh hpp (fun S_61 H locs hw_62 hP hD hS hC hh hs_63 hpp => ?_)
      try dsimp only at hw_62
      have aw_64 : AW [] [202] S1 S_61 := hw_62.1
      have aw_64t : AW [] [202] S S_61 := hAW.tr (aw_64.mono (by decide) (by decide))
      have tj_65 : TJ S_61 N := TJ.aw tj1 aw_64 (by decide)
      have sg_66h : SG S_61 402 (lput 200 Lq (b8 125)) := hw_62.2
      have sg_66c : (lput 200 Lq (b8 125)).length ≤ 200 := (lput_len hp2).1
      exact c_vret hx hb hr hK hP hD hS hC hh hpp ⟨aw_64t, (by rw [← hp3]; have hj : wmtl tr (vno ws v9) (wmt tr ws fu) (ws.2.2 v9) 0 i Lq = Lq := rfl; rw [hj]; exact sg_66h)⟩ dX6_putValue_195 hlocks
    · intro j ih9 H locs k sl g hI
      obtain ⟨S1, i, Lq, ls, hC, hh, hpp, hAW, hp0, hp1, hp2, hp3, rfl, rfl, hP, hD, hS, hl, rfl⟩ := hI
      have tj1 : TJ S1 N := TJ.aw hT hAW (by decide)
      have te1 : TC S1 tr mk N := hE.aw hAW (by decide)
      have hi9 : i < tr 2 (vno ws v9) := by omega
      have hlab := (te1.lab x1_ x2_ hi9).2
      have hR1 : RCw S1 ws al f9 := hR.aw hAW (by decide) ⟨by decide, by decide⟩
      refine lv_iload hx hb dX6_putValue_121 (lv_at hl 5 rfl) ?_
      refine lv_iload hx hb dX6_putValue_123 (lv_at hl 4 rfl) ?_
      refine lv_icmp_ge (tgt := 186) hx hb dX6_putValue_125 (by decide) (fun c_67 => absurd c_67 (fun h => by have h2 := (nI_leI (a := tr 2 (vno ws v9)) (b := i) (by omega) (by omega)).mp h; omega)) (fun c_67 => ?_)
      refine lv_aload_n hx hb dX6_putValue_128 rfl (lv_at hl 0 rfl) ?_
      refine va_get (D := gD G) (ci := 6) (v := .ref (ga G 8)) (C := RX6) (T := TX6) (N := 14) hx hb htu cu_in6 hown hK hP 5 cw_5 rfl 1 (by decide) (htu _ C_150) (fun _ h9 => h9) rfl dX6_putValue_129 ?_
      have hC0 := hC
      refine c_ci (c_runV (As := []) (rest := []) (q0 := 8) (ci := 1) ⟨hx, hb, hml, hown, htu⟩ (s_isFull_8 l G S1 ((Lq).length) hC hp1.1 hp2 H) (cwV 0 htu hU_X6_150 rfl rfl rfl (by decide +kernel) ⟨show 0 + 1 ≤ (fu + 1) + 8 by omega, show 8 + (1 + 11) + 0 ≤ 30 * (fu + 1) + 200 by omega⟩) hP hK hD hC hpp cw_8 rfl rfl hl.1 rfl (lv_room (Nat.le_of_ble_eq_true rfl)) dX6_putValue_132) hS hD hh hpp (fun r_68 S_69 H locs hw_70 hP hD hS hC hh hs_71 hpp => ?_)
      obtain ⟨-, hu9, hw_70⟩ := hw_70
      have hu9 := hu9.symm
      subst hu9
      refine lv_if_ne (tgt := 186) hx hb dX6_putValue_135 (by decide) (fun c_72 => ?_) (fun c_72 => ?_)
      · skip
        refine lv_aload_n hx hb dX6_putValue_186 rfl (lv_at hl 0 rfl) ?_
        refine va_get (D := gD G) (ci := 6) (v := .ref (ga G 8)) (C := RX6) (T := TX6) (N := 14) hx hb htu cu_in6 hown hK hP 5 cw_5 rfl 1 (by decide) (htu _ C_150) (fun _ h9 => h9) rfl dX6_putValue_187 ?_
        refine lv_bipush (v := 125) hx hb dX6_putValue_190 (by decide) ?_
        have hC0 := hC
        refine c_cv (c_runV (As := [.int 125]) (rest := []) (q0 := 8) (ci := 1) ⟨hx, hb, hml, hown, htu⟩ (xs_put_8 l G S1 Lq 125 hC hp1 hp2 H) (cwV 1 htu hU_X6_157 rfl rfl rfl (by decide +kernel) ⟨show 0 + 1 ≤ (fu + 1) + 8 by omega, show 8 + (2 + 11) + 0 ≤ 30 * (fu + 1) + 200 by omega⟩) hP hK hD hC hpp cw_8 rfl rfl hl.1 rfl (lv_room (Nat.le_of_ble_eq_true rfl)) dX6_putValue_192) hS hD hh hpp (fun S_74 H locs hw_75 hP hD hS hC hh hs_76 hpp => ?_)
        try dsimp only at hw_75
        have aw_77 : AW [] [202] S1 S_74 := hw_75.1
        have aw_77t : AW [] [202] S S_74 := hAW.tr (aw_77.mono (by decide) (by decide))
        have tj_78 : TJ S_74 N := TJ.aw tj1 aw_77 (by decide)
        have sg_79h : SG S_74 402 (lput 200 Lq (b8 125)) := hw_75.2
        have sg_79c : (lput 200 Lq (b8 125)).length ≤ 200 := (lput_len hp2).1
        exact c_vret hx hb hr hK hP hD hS hC hh hpp ⟨aw_77t, (by have hff : ¬ Lq.length < 200 := fun q => hw_70.elim (fun z => absurd q (Nat.not_lt.mpr z.2)) (fun z => c_72 z.1); rw [← hp3, wmtl_full (fun v L h => wmt_full h) _ _ _ hff]; exact sg_79h)⟩ dX6_putValue_195 hlocks
      · skip
        refine lv_aload_n hx hb dX6_putValue_138 rfl (lv_at hl 0 rfl) ?_
        refine va_get (D := gD G) (ci := 6) (v := .ref (ga G 8)) (C := RX6) (T := TX6) (N := 14) hx hb htu cu_in6 hown hK hP 5 cw_5 rfl 1 (by decide) (htu _ C_150) (fun _ h9 => h9) rfl dX6_putValue_139 ?_
        refine lv_aload_n hx hb dX6_putValue_142 rfl (lv_at hl 0 rfl) ?_
        refine va_get (D := gD G) (ci := 6) (v := .ref (ga G 1)) (C := RX6) (T := TX6) (N := 14) hx hb htu cu_in6 hown hK hP 5 cw_5 rfl 0 (by decide) (htu _ C_162) (fun _ h9 => h9) rfl dX6_putValue_143 ?_
        refine lv_iload_n hx hb dX6_putValue_146 rfl (lv_at hl 3 rfl) ?_
        refine lv_iload hx hb dX6_putValue_147 (lv_at hl 5 rfl) ?_
        have hC0 := hC
        refine c_ci (c_runV (As := [.int (nI (vno ws v9)), .int (nI i)]) (rest := [.ref (ga G 8)]) (q0 := 1) (ci := 3) ⟨hx, hb, hml, hown, htu⟩ (tt_labelOf l G S1 N (nI (vno ws v9)) (nI i) hC tj1.1 H) (cwV 2 htu hU_X6_161 rfl rfl rfl (by decide +kernel) ⟨show 1 + 1 ≤ (fu + 1) + 8 by omega, show 8 + (3 + 11) + 21 ≤ 30 * (fu + 1) + 200 by omega⟩) hP hK hD hC hpp cw_1 rfl rfl hl.1 rfl (lv_room (Nat.le_of_ble_eq_true rfl)) dX6_putValue_149) hS hD hh hpp (fun r_80 S_81 H locs hw_82 hP hD hS hC hh hs_83 hpp => ?_)
        obtain ⟨-, hu9, hw_82⟩ := hw_82
        have hu9 := hu9.symm
        subst hu9
        obtain rfl : r_80 = nI (tr (20 + i) (vno ws v9)) := hw_82.trans (te1.lab x1_ x2_ hi9).1
        have hC0 := hC
        refine c_cv (c_runV (As := [.int (nI (tr (20 + i) (vno ws v9)))]) (rest := []) (q0 := 8) (ci := 1) ⟨hx, hb, hml, hown, htu⟩ (xs_putLetter_8 l G S1 Lq (nI (tr (20 + i) (vno ws v9))) hC hp1 hp2 H) (cwV 1 htu hU_X6_164 rfl rfl rfl (by decide +kernel) ⟨show 1 + 1 ≤ (fu + 1) + 8 by omega, show 8 + (2 + 11) + 21 ≤ 30 * (fu + 1) + 200 by omega⟩) hP hK hD hC hpp cw_8 rfl rfl hl.1 rfl (lv_room (Nat.le_of_ble_eq_true rfl)) dX6_putValue_152) hS hD hh hpp (fun S_85 H locs hw_86 hP hD hS hC hh hs_87 hpp => ?_)
        try dsimp only at hw_86
        have aw_88 : AW [] [202] S1 S_85 := hw_86.1
        have aw_88t : AW [] [202] S S_85 := hAW.tr (aw_88.mono (by decide) (by decide))
        have tj_89 : TJ S_85 N := TJ.aw tj1 aw_88 (by decide)
        have sg_90h : SG S_85 402 (lput 200 Lq (b8 (nI (97 + tr (20 + i) (vno ws v9))))) := by have := hw_86.2; rw [i2c_let _ hlab] at this; exact this
        have sg_90c : (lput 200 Lq (b8 (nI (97 + tr (20 + i) (vno ws v9))))).length ≤ 200 := (lput_len hp2).1
        have hR2 : RCw S_85 ws al f9 := hR.aw aw_88t (by decide) ⟨by decide, by decide⟩
        obtain ⟨b9, b1_, b2_, b3_⟩ := hR2.g30 hv hso (i := i) (by rw [x3_]; exact hi9)
        refine lv_aload_n hx hb dX6_putValue_155 rfl (lv_at hl 0 rfl) ?_
        refine lv_aload_n hx hb dX6_putValue_156 rfl (lv_at hl 0 rfl) ?_
        refine va_get (D := gD G) (ci := 6) (v := .ref (kH S 30)) (C := RX6) (T := TX6) (N := 14) hx hb htu cu_in6 hown hK hP 5 cw_5 rfl 5 (by decide) (htu _ C_155) (fun _ h9 => h9) (c_hv (hh.2 30 (lt35 (by decide)))) dX6_putValue_157 ?_
        refine lv_aload_n hx hb dX6_putValue_160 rfl (lv_at hl 0 rfl) ?_
        refine va_get (D := gD G) (ci := 6) (v := .ref (kH S 29)) (C := RX6) (T := TX6) (N := 14) hx hb htu cu_in6 hown hK hP 5 cw_5 rfl 4 (by decide) (htu _ C_154) (fun _ h9 => h9) (c_hv (hh.2 29 (lt35 (by decide)))) dX6_putValue_161 ?_
        refine lv_iload_n hx hb dX6_putValue_164 rfl (lv_at hl 1 rfl) ?_
        have hC0 := hC
        refine c_ci (c_runV (As := [.int (nI v9)]) (rest := [.ref (kH S 30), .ref (ga G 5)]) (q0 := (2 * 29 + 13)) (ci := 0) ⟨hx, hb, hml, hown, htu⟩ (c_getA l G S_85 29 (lt35 (by decide)) hC (kH S 29) (hh.2 29 (lt35 (by decide))) (nI v9) H) (cwV 1 htu hU_X6_131 rfl rfl rfl (by decide +kernel) ⟨show 0 + 1 ≤ (fu + 1) + 8 by omega, show 8 + (2 + 11) + 0 ≤ 30 * (fu + 1) + 200 by omega⟩) hP hK hD hC hpp (c_hd (hh.2 29 (lt35 (by decide))) (cw_row (lt35 (by decide)))) rfl rfl hl.1 rfl (lv_room (Nat.le_of_ble_eq_true rfl)) dX6_putValue_165) hS hD hh hpp (fun r_91 S_92 H locs hw_93 hP hD hS hC hh hs_94 hpp => ?_)
        obtain ⟨hu9, hw_93⟩ := hw_93
        have hu9 := hu9.symm
        subst hu9
        obtain rfl : r_91 = nI b9 := hw_93.trans b1_
        refine lv_iload hx hb dX6_putValue_168 (lv_at hl 5 rfl) ?_
        refine lv_iadd hx hb dX6_putValue_170 ?_
        refine m_top (y := nI (b9 + i)) (nI_add b9 i) ?_
        have hC0 := hC
        refine c_ci (c_runV (As := [.int (nI (b9 + i))]) (rest := [.ref (ga G 5)]) (q0 := (2 * 30 + 13)) (ci := 0) ⟨hx, hb, hml, hown, htu⟩ (c_getA l G S_85 30 (lt35 (by decide)) hC (kH S 30) (hh.2 30 (lt35 (by decide))) (nI (b9 + i)) H) (cwV 1 htu hU_X6_131 rfl rfl rfl (by decide +kernel) ⟨show 0 + 1 ≤ (fu + 1) + 8 by omega, show 8 + (2 + 11) + 0 ≤ 30 * (fu + 1) + 200 by omega⟩) hP hK hD hC hpp (c_hd (hh.2 30 (lt35 (by decide))) (cw_row (lt35 (by decide)))) rfl rfl hl.1 rfl (lv_room (Nat.le_of_ble_eq_true rfl)) dX6_putValue_171) hS hD hh hpp (fun r_95 S_96 H locs hw_97 hP hD hS hC hh hs_98 hpp => ?_)
        obtain ⟨hu9, hw_97⟩ := hw_97
        have hu9 := hu9.symm
        subst hu9
        obtain rfl : r_95 = nI ((ws.2.2 v9).getD i 0) := hw_97.trans b3_
        refine lv_iload_n hx hb dX6_putValue_174 rfl (lv_at hl 2 rfl) ?_
        refine lv_iconst (v := 1) hx hb dX6_putValue_175 (by decide) ?_
        refine lv_iadd hx hb dX6_putValue_176 ?_
        refine m_top (y := nI (d9 + 1)) (nI_add d9 1) ?_
        have rq_99 : RCw S_85 ws al f9 := hR.aw aw_88t (by decide) ⟨by decide, by decide⟩
        have rq_99t : TC S_85 tr mk N := hE.aw aw_88t (by decide)
        have hC0 := hC
        refine c_cv (c_runV (As := [.int (nI ((ws.2.2 v9).getD i 0)), .int (nI (d9 + 1))]) (rest := []) (q0 := 5) (ci := 6) ⟨hx, hb, hml, hown, htu⟩ (ih l G S_85 ws al f9 tr N dp mk ((lput 200 Lq (b8 (nI (97 + tr (20 + i) (vno ws v9)))))) (d9 + 1) ((ws.2.2 v9).getD i 0) hC rq_99 tj_89 rq_99t hWf sg_90h sg_90c ((x4_ _ (gD_mem (by omega)))) ((by omega)) H) (cwV 2 htu hU_X6_66 rfl rfl rfl (by decide +kernel) ⟨show (fu + 8) + 1 ≤ (fu + 1) + 8 by omega, show 8 + (6 + 11) + (30 * fu + 200) ≤ 30 * (fu + 1) + 200 by omega⟩) hP hK hD hC hpp cw_5 rfl rfl hl.1 rfl (lv_room (Nat.le_of_ble_eq_true rfl)) dX6_putValue_177) hS hD hh hpp (fun S_101 H locs hw_102 hP hD hS hC hh hs_103 hpp => ?_)
        try dsimp only at hw_102
        have aw_104 : AW [] [202] S_85 S_101 := hw_102.1
        have aw_104t : AW [] [202] S S_101 := aw_88t.tr (aw_104.mono (by decide) (by decide))
        have tj_105 : TJ S_101 N := TJ.aw tj_89 aw_104 (by decide)
        have sg_106h : SG S_101 402 (wmt tr ws fu ((ws.2.2 v9).getD i 0) (lput 200 Lq (b8 (nI (97 + tr (20 + i) (vno ws v9)))))) := hw_102.2
        have sg_106c : (wmt tr ws fu ((ws.2.2 v9).getD i 0) (lput 200 Lq (b8 (nI (97 + tr (20 + i) (vno ws v9)))))).length ≤ 200 := wmt_len _ _ _ sg_90c
        refine lv_iinc (v := nI (i + 1)) (lv' := [(5, .int (nI (i + 1))), (0, .ref (ga G 5)), (1, .int (nI v9)), (2, .int (nI d9)), (3, .int (nI (vno ws v9))), (4, .int (nI (tr 2 (vno ws v9))))]) hx hb dX6_putValue_180 hl (k := 5) rfl (nI_1 i) (by decide) rfl (fun ls hl => ?_)
        refine lv_goto (tgt := 121) hx hb dX6_putValue_183 (by decide) ?_
        exact ih9 _ _ _ _ _ ⟨S_101, i + 1, (wmt tr ws fu ((ws.2.2 v9).getD i 0) (lput 200 Lq (b8 (nI (97 + tr (20 + i) (vno ws v9)))))), ls, hC, hh, hpp, aw_104t, by omega, sg_106h, sg_106c, hp3, rfl, rfl, hP, hD, hS, lv_sub hl [1, 2, 3, 4, 5, 0] rfl, rfl⟩

theorem xp_put_all : ∀ fu, xpPutAt fu := by
  intro fu
  induction fu with
  | zero => exact fun l G S ws al f9 tr N dp mk L9 d9 v9 hC hR hT hE hWf hS9 hcap hv hd Hs => xp_put_0 l G S ws al f9 tr N dp mk L9 d9 v9 hC hR hT hE hWf hS9 hcap hv hd Hs
  | succ fu ih => exact fun l G S ws al f9 tr N dp mk L9 d9 v9 hC hR hT hE hWf hS9 hcap hv hd Hs => xp_put_s l G S fu ws al f9 tr N dp mk L9 d9 v9 hC ih hR hT hE hWf hS9 hcap hv hd Hs

