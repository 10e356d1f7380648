def xmTellAt (d : Nat) : Prop := ∀ (l : Launch) (G : mG) (hDD : mDD G) (o : Nat → Int32) (F : Nat → Nat → Int32) (tr : aM) (N : Nat) (dp : Nat → Nat) (ws : wmS) (φ : Nat → Nat) (L9 : List Int32) (v9 : Nat) (hM : ∀ v, v < wnv ws → φ v < 400 ∧ MV tr F ws φ v) (hWf : wmW tr N dp ws) (hN : N ≤ 120) (h6 : ∀ m, m < N → tr 2 m ≤ 6) (hlb : ∀ n, n < N → tr 0 n = 5 → tr 2 n ≤ 6 ∧ ∀ i, i < tr 2 n → F 5 (6 * n + i) = nI (tr (20 + i) n) ∧ tr (20 + i) n < 26) (hG : MG9 o F L9) (hcap : L9.length ≤ 200) (h48 : o 48 = nI 200) (hd : 200 ≤ L9.length + d) (hv : v9 < wnv ws) (sz : Nat), Met l yX8_tellValue (wU yX8_tellValue cX8_tellValue 3 none) { frames := d + 2, cells := 0, slots := 0, locals := 22 * d + 50 } (mPc G o F sz [.ref (mh G), .int (nI (φ v9))]) (mQv G sz (fun u => MG9 u.1 u.2 (wmt tr ws d v9 L9) ∧ Kq LTl o F u)) 0 0 (mA G sz)

set_option maxHeartbeats 4000000 in
set_option maxRecDepth 100000 in
/-- tellValue, no room -/
theorem xm_tellX_0 (l : Launch) (G : mG) (hDD : mDD G) (o : Nat → Int32) (F : Nat → Nat → Int32) (tr : aM) (N : Nat) (dp : Nat → Nat) (ws : wmS) (φ : Nat → Nat) (L9 : List Int32) (v9 : Nat) (hM : ∀ v, v < wnv ws → φ v < 400 ∧ MV tr F ws φ v) (hWf : wmW tr N dp ws) (hN : N ≤ 120) (h6 : ∀ m, m < N → tr 2 m ≤ 6) (hlb : ∀ n, n < N → tr 0 n = 5 → tr 2 n ≤ 6 ∧ ∀ i, i < tr 2 n → F 5 (6 * n + i) = nI (tr (20 + i) n) ∧ tr (20 + i) n < 26) (hG : MG9 o F L9) (hcap : L9.length ≤ 200) (h48 : o 48 = nI 200) (hd : 200 ≤ L9.length + 0) (hv : v9 < wnv ws) (sz : Nat) : Met l yX8_tellValue (wU yX8_tellValue cX8_tellValue 3 none) { frames := 0 + 2, cells := 0, slots := 0, locals := 22 * 0 + 50 } (mPc G o F sz [.ref (mh G), .int (nI (φ v9))]) (mQv G sz (fun u => MG9 u.1 u.2 (wmt tr ws 0 v9 L9) ∧ Kq LTl o F u)) 0 0 (mA G sz) := by
  refine Met.ofW (cc := cX8_tellValue) (maxL := 3) (ret := none) (by decide) rfl ?_
  intro p e s m args below meth c s₁ B hml hv
  obtain ⟨rfl, hsz, hP, hK⟩ := hv
  have hx := B.exec
  have hb := B.bytes
  have hr := B.returns
  have htu : ∀ w ∈ WU, w.before _ s = true := fun w h => atoms_spec (ws := (wU yX8_tellValue cX8_tellValue 3 none)) B.pre w (List.mem_cons_of_mem _ h)
  have hown : s.vm.findClass RX8 = some m.cls := findClass_of_methodNamed B.named
  have hlocks := B.notSynchronized
  subst hsz
  have hS : va_S (mA G s.heap.size) s.heap s.heap [] := va_S.rf
  have hl := lv_entry ([.ref (mh G), .int (nI (φ v9))]) (n := 3) (Nat.le_of_ble_eq_true rfl)
  rw [lg_entry_eq]
  generalize (lg_sl ([.ref (mh G), .int (nI (φ v9))]) ++ List.replicate (3 - (lg_sl ([.ref (mh G), .int (nI (φ v9))])).length) Slot.unset).toArray = ls at hl ⊢
  have hl : lv_has ls 3 [(0, .ref (mh G)), (1, .int (nI (φ v9)))] := hl
  obtain ⟨H, hHe⟩ : ∃ H : Heap, H = s.heap := ⟨_, rfl⟩
  rw [← hHe] at hP
  have hS : va_S (mA G s.heap.size) s.heap H [] := by rw [hHe]; exact va_S.rf
  refine W.heq hHe ?_
  obtain ⟨hφ, hMV⟩ := hM v9 hv
  have hso3 := (hWf.1 v9 hv).1
  refine lv_aload_n hx hb dX8_tellValue_0 rfl (lv_at hl 0 rfl) ?_
  refine m_get (v := .int (nI (L9.length))) hx hb htu wu_in hown hK hP 47 (by decide) (htu _ U_187) rfl (m_v hG.1) dX8_tellValue_1 ?_
  refine lv_aload_n hx hb dX8_tellValue_4 rfl (lv_at hl 0 rfl) ?_
  refine m_get (v := .int 200) hx hb htu wu_in hown hK hP 48 (by decide) (htu _ U_188) rfl (m_v h48) dX8_tellValue_5 ?_
  refine lv_icmp_ne (tgt := 12) hx hb dX8_tellValue_8 (by decide) (fun c_1 => absurd (congrArg nI (show L9.length = 200 by omega)) c_1) (fun c_1 => ?_)
  exact m_vret hx hb hr hK hP hS ⟨hG, Kq.rf⟩ dX8_tellValue_11 hlocks

set_option maxHeartbeats 4000000 in
set_option maxRecDepth 100000 in
/-- tellValue, one more -/
theorem xm_tellX_s (l : Launch) (G : mG) (hDD : mDD G) (o : Nat → Int32) (F : Nat → Nat → Int32) (d : Nat) (tr : aM) (N : Nat) (dp : Nat → Nat) (ws : wmS) (φ : Nat → Nat) (L9 : List Int32) (v9 : Nat) (ih : xmTellAt d) (hM : ∀ v, v < wnv ws → φ v < 400 ∧ MV tr F ws φ v) (hWf : wmW tr N dp ws) (hN : N ≤ 120) (h6 : ∀ m, m < N → tr 2 m ≤ 6) (hlb : ∀ n, n < N → tr 0 n = 5 → tr 2 n ≤ 6 ∧ ∀ i, i < tr 2 n → F 5 (6 * n + i) = nI (tr (20 + i) n) ∧ tr (20 + i) n < 26) (hG : MG9 o F L9) (hcap : L9.length ≤ 200) (h48 : o 48 = nI 200) (hd : 200 ≤ L9.length + (d + 1)) (hv : v9 < wnv ws) (sz : Nat) : Met l yX8_tellValue (wU yX8_tellValue cX8_tellValue 3 none) { frames := (d + 1) + 2, cells := 0, slots := 0, locals := 22 * (d + 1) + 50 } (mPc G o F sz [.ref (mh G), .int (nI (φ v9))]) (mQv G sz (fun u => MG9 u.1 u.2 (wmt tr ws (d + 1) v9 L9) ∧ Kq LTl o F u)) 0 0 (mA G sz) := by
  refine Met.ofW (cc := cX8_tellValue) (maxL := 3) (ret := none) (by decide) rfl ?_
  intro p e s m args below meth c s₁ B hml hv
  obtain ⟨rfl, hsz, hP, hK⟩ := hv
  have hx := B.exec
  have hb := B.bytes
  have hr := B.returns
  have htu : ∀ w ∈ WU, w.before _ s = true := fun w h => atoms_spec (ws := (wU yX8_tellValue cX8_tellValue 3 none)) B.pre w (List.mem_cons_of_mem _ h)
  have hown : s.vm.findClass RX8 = some m.cls := findClass_of_methodNamed B.named
  have hlocks := B.notSynchronized
  subst hsz
  have hS : va_S (mA G s.heap.size) s.heap s.heap [] := va_S.rf
  have hl := lv_entry ([.ref (mh G), .int (nI (φ v9))]) (n := 3) (Nat.le_of_ble_eq_true rfl)
  rw [lg_entry_eq]
  generalize (lg_sl ([.ref (mh G), .int (nI (φ v9))]) ++ List.replicate (3 - (lg_sl ([.ref (mh G), .int (nI (φ v9))])).length) Slot.unset).toArray = ls at hl ⊢
  have hl : lv_has ls 3 [(0, .ref (mh G)), (1, .int (nI (φ v9)))] := hl
  obtain ⟨H, hHe⟩ : ∃ H : Heap, H = s.heap := ⟨_, rfl⟩
  rw [← hHe] at hP
  have hS : va_S (mA G s.heap.size) s.heap H [] := by rw [hHe]; exact va_S.rf
  refine W.heq hHe ?_
  obtain ⟨hφ, hMV⟩ := hM v9 hv
  have hso3 := (hWf.1 v9 hv).1
  refine lv_aload_n hx hb dX8_tellValue_0 rfl (lv_at hl 0 rfl) ?_
  refine m_get (v := .int (nI (L9.length))) hx hb htu wu_in hown hK hP 47 (by decide) (htu _ U_187) rfl (m_v hG.1) dX8_tellValue_1 ?_
  refine lv_aload_n hx hb dX8_tellValue_4 rfl (lv_at hl 0 rfl) ?_
  refine m_get (v := .int 200) hx hb htu wu_in hown hK hP 48 (by decide) (htu _ U_188) rfl (m_v h48) dX8_tellValue_5 ?_
  refine lv_icmp_ne (tgt := 12) hx hb dX8_tellValue_8 (by decide) (fun c_1 => ?_) (fun c_1 => ?_)
  · skip
    have hnf : L9.length < 200 := by have h9 : L9.length ≠ 200 := (fun z => c_1 (congrArg nI z)); omega
    refine lv_aload_n hx hb dX8_tellValue_12 rfl (lv_at hl 0 rfl) ?_
    refine m_get (v := .ref (md G 52)) hx hb htu wu_in hown hK hP 52 (by decide) (htu _ U_237) rfl rfl dX8_tellValue_13 ?_
    refine lv_iload_n hx hb dX8_tellValue_16 rfl (lv_at hl 1 rfl) ?_
    refine m_ald (j := φ v9) (v := nI (vso ws v9)) hx hb hK hP 31 52 rfl (by omega) (by decide) hMV.1 dX8_tellValue_17 ?_
    rcases Decidable.em (nI (vso ws v9) = 0) with c_2 | c_2
    · skip
      refine lv_tableIn (tgt := 44) hx hb dX8_tellValue_18 (by rw [c_2]; decide) (by rw [c_2]; decide) (by rw [c_2]; rfl) (by decide) ?_
      have hso : vso ws v9 = 0 := (nI_eq (a := vso ws v9) (b := 0) (by omega) (by omega)).mp c_2
      refine lv_aload_n hx hb dX8_tellValue_44 rfl (lv_at hl 0 rfl) ?_
      refine lv_aload_n hx hb dX8_tellValue_45 rfl (lv_at hl 0 rfl) ?_
      refine m_get (v := .ref (md G 53)) hx hb htu wu_in hown hK hP 53 (by decide) (htu _ U_238) rfl rfl dX8_tellValue_46 ?_
      refine lv_iload_n hx hb dX8_tellValue_49 rfl (lv_at hl 1 rfl) ?_
      refine m_ald (j := φ v9) (v := ws.2.1 v9) hx hb hK hP 32 53 rfl (by omega) (by decide) (hMV.2.1 (by omega)) dX8_tellValue_50 ?_
      refine m_cv (m_runV (As := [.int (ws.2.1 v9)]) (rest := []) ⟨hx, hb, hml, hown, htu⟩ (xm_outNumber l G hDD o F L9 (ws.2.1 v9) hG hcap ((((Kq.rf (L := LTl) (o := o) (F := F)) 48 (by decide)).1.trans h48)) H.size) (cwV 1 htu gU_X8_outNumber rfl rfl rfl (by decide +kernel) ⟨show 1 + 1 ≤ (d + 1) + 2 by omega, show 8 + (6 + 11) + 21 ≤ 22 * (d + 1) + 50 by omega⟩) hP hK rfl hl.1 rfl (lv_room (Nat.le_of_ble_eq_true rfl)) dX8_tellValue_51) hS (fun o_4 F_5 H locs hw_6 hP hS => ?_)
      try dsimp only at hw_6
      obtain ⟨b_7g, b_7q0⟩ := hw_6
      have b_7q : Kq LTl o F (o_4, F_5) := (Kq.rf (L := LTl) (o := o) (F := F)).tr b_7q0
      have b_7c : (lputs 200 L9 (figs (ws.2.1 v9))).length ≤ 200 := (lputs_len _ _ hcap).1
      refine lv_goto (tgt := 158) hx hb dX8_tellValue_54 (by decide) ?_
      exact m_vret hx hb hr hK hP hS ⟨by rw [wmt_0 hnf hso]; exact b_7g, b_7q⟩ dX8_tellValue_158 hlocks
    rcases Decidable.em (nI (vso ws v9) = 1) with c_8 | c_8
    · skip
      refine lv_tableIn (tgt := 57) hx hb dX8_tellValue_18 (by rw [c_8]; decide) (by rw [c_8]; decide) (by rw [c_8]; rfl) (by decide) ?_
      have hso : vso ws v9 = 1 := (nI_eq (a := vso ws v9) (b := 1) (by omega) (by omega)).mp c_8
      refine lv_aload_n hx hb dX8_tellValue_57 rfl (lv_at hl 0 rfl) ?_
      refine lv_aload_n hx hb dX8_tellValue_58 rfl (lv_at hl 0 rfl) ?_
      refine m_get (v := .ref (md G 53)) hx hb htu wu_in hown hK hP 53 (by decide) (htu _ U_238) rfl rfl dX8_tellValue_59 ?_
      refine lv_iload_n hx hb dX8_tellValue_62 rfl (lv_at hl 1 rfl) ?_
      refine m_ald (j := φ v9) (v := ws.2.1 v9) hx hb hK hP 32 53 rfl (by omega) (by decide) (hMV.2.1 (by omega)) dX8_tellValue_63 ?_
      refine lv_iconst (v := 1) hx hb dX8_tellValue_64 (by decide) ?_
      refine lv_icmp_ne (tgt := 73) hx hb dX8_tellValue_65 (by decide) (fun c_9 => ?_) (fun c_9 => ?_)
      · skip
        refine lv_bipush (v := 110) hx hb dX8_tellValue_73 (by decide) ?_
        refine m_cv (m_runV (As := [.int 110]) (rest := []) ⟨hx, hb, hml, hown, htu⟩ (m_out l G hDD o F ((L9).length) 200 110 hG.1 ((((Kq.rf (L := LTl) (o := o) (F := F)) 48 (by decide)).1.trans h48)) ((by decide)) hcap H.size) (cwV 1 htu gU_X8_out rfl rfl rfl (by decide +kernel) ⟨show 0 + 1 ≤ (d + 1) + 2 by omega, show 8 + (2 + 11) + 0 ≤ 22 * (d + 1) + 50 by omega⟩) hP hK rfl hl.1 rfl (lv_room (Nat.le_of_ble_eq_true rfl)) dX8_tellValue_75) hS (fun o_11 F_12 H locs hw_13 hP hS => ?_)
        try dsimp only at hw_13
        obtain ⟨b_14g, b_14q0⟩ := MG9.out hG hw_13
        have b_14q : Kq LTl o F (o_11, F_12) := (Kq.rf (L := LTl) (o := o) (F := F)).tr (b_14q0.mono (by decide))
        have b_14c : (lput 200 L9 (b8 110)).length ≤ 200 := (lput_len hcap).1
        refine lv_goto (tgt := 158) hx hb dX8_tellValue_78 (by decide) ?_
        exact m_vret hx hb hr hK hP hS ⟨by rw [wmt_1 hnf hso, if_neg c_9]; exact b_14g, b_14q⟩ dX8_tellValue_158 hlocks
      · skip
        refine lv_bipush (v := 121) hx hb dX8_tellValue_68 (by decide) ?_
        refine lv_goto (tgt := 75) hx hb dX8_tellValue_70 (by decide) ?_
        refine m_cv (m_runV (As := [.int 121]) (rest := []) ⟨hx, hb, hml, hown, htu⟩ (m_out l G hDD o F ((L9).length) 200 121 hG.1 ((((Kq.rf (L := LTl) (o := o) (F := F)) 48 (by decide)).1.trans h48)) ((by decide)) hcap H.size) (cwV 1 htu gU_X8_out rfl rfl rfl (by decide +kernel) ⟨show 0 + 1 ≤ (d + 1) + 2 by omega, show 8 + (2 + 11) + 0 ≤ 22 * (d + 1) + 50 by omega⟩) hP hK rfl hl.1 rfl (lv_room (Nat.le_of_ble_eq_true rfl)) dX8_tellValue_75) hS (fun o_16 F_17 H locs hw_18 hP hS => ?_)
        try dsimp only at hw_18
        obtain ⟨b_19g, b_19q0⟩ := MG9.out hG hw_18
        have b_19q : Kq LTl o F (o_16, F_17) := (Kq.rf (L := LTl) (o := o) (F := F)).tr (b_19q0.mono (by decide))
        have b_19c : (lput 200 L9 (b8 121)).length ≤ 200 := (lput_len hcap).1
        refine lv_goto (tgt := 158) hx hb dX8_tellValue_78 (by decide) ?_
        exact m_vret hx hb hr hK hP hS ⟨by rw [wmt_1 hnf hso, if_pos c_9]; exact b_19g, b_19q⟩ dX8_tellValue_158 hlocks
    rcases Decidable.em (nI (vso ws v9) = 2) with c_20 | c_20
    · skip
      refine lv_tableIn (tgt := 81) hx hb dX8_tellValue_18 (by rw [c_20]; decide) (by rw [c_20]; decide) (by rw [c_20]; rfl) (by decide) ?_
      have hso : vso ws v9 = 2 := (nI_eq (a := vso ws v9) (b := 2) (by omega) (by omega)).mp c_20
      refine lv_aload_n hx hb dX8_tellValue_81 rfl (lv_at hl 0 rfl) ?_
      refine lv_bipush (v := 102) hx hb dX8_tellValue_82 (by decide) ?_
      refine m_cv (m_runV (As := [.int 102]) (rest := []) ⟨hx, hb, hml, hown, htu⟩ (m_out l G hDD o F ((L9).length) 200 102 hG.1 ((((Kq.rf (L := LTl) (o := o) (F := F)) 48 (by decide)).1.trans h48)) ((by decide)) hcap H.size) (cwV 1 htu gU_X8_out rfl rfl rfl (by decide +kernel) ⟨show 0 + 1 ≤ (d + 1) + 2 by omega, show 8 + (2 + 11) + 0 ≤ 22 * (d + 1) + 50 by omega⟩) hP hK rfl hl.1 rfl (lv_room (Nat.le_of_ble_eq_true rfl)) dX8_tellValue_84) hS (fun o_22 F_23 H locs hw_24 hP hS => ?_)
      try dsimp only at hw_24
      obtain ⟨b_25g, b_25q0⟩ := MG9.out hG hw_24
      have b_25q : Kq LTl o F (o_22, F_23) := (Kq.rf (L := LTl) (o := o) (F := F)).tr (b_25q0.mono (by decide))
      have b_25c : (lput 200 L9 (b8 102)).length ≤ 200 := (lput_len hcap).1
      refine lv_goto (tgt := 158) hx hb dX8_tellValue_87 (by decide) ?_
      exact m_vret hx hb hr hK hP hS ⟨by rw [wmt_2 hnf hso]; exact b_25g, b_25q⟩ dX8_tellValue_158 hlocks
    have hout : (nI (vso ws v9)).toInt < 0 ∨ 2 < (nI (vso ws v9)).toInt := tb_out (nI (vso ws v9)) 0 2 (fun z h1 h2 e => by
      rcases (show z = 0 ∨ z = 1 ∨ z = 2 by omega) with rfl | rfl | rfl
      · exact c_2 (Int32.toInt_inj.mp (e.trans (by decide)))
      · exact c_8 (Int32.toInt_inj.mp (e.trans (by decide)))
      · exact c_20 (Int32.toInt_inj.mp (e.trans (by decide))))
    refine lv_tableOut (tgt := 90) hx hb dX8_tellValue_18 hout (by decide) ?_
    have hso : vso ws v9 = 3 := by
      have g0 : vso ws v9 ≠ 0 := fun z => c_2 (by rw [z]; rfl)
      have g1 : vso ws v9 ≠ 1 := fun z => c_8 (by rw [z]; rfl)
      have g2 : vso ws v9 ≠ 2 := fun z => c_20 (by rw [z]; rfl)
      omega
    obtain ⟨x1_, x2_, x3_, x4_⟩ := (hWf.1 v9 hv).2.2 hso
    obtain ⟨m9, hm9⟩ : ∃ m9, vno ws v9 = m9 := ⟨_, rfl⟩
    rw [hm9] at x1_ x2_ x3_
    obtain ⟨y1_, y2_⟩ := hlb m9 x1_ x2_
    obtain ⟨v1_, v2_, v3_⟩ := hMV.2.2.2 hso
    rw [hm9] at v1_ v2_
    refine lv_aload_n hx hb dX8_tellValue_90 rfl (lv_at hl 0 rfl) ?_
    refine lv_bipush (v := 123) hx hb dX8_tellValue_91 (by decide) ?_
    refine m_cv (m_runV (As := [.int 123]) (rest := []) ⟨hx, hb, hml, hown, htu⟩ (m_out l G hDD o F ((L9).length) 200 123 hG.1 ((((Kq.rf (L := LTl) (o := o) (F := F)) 48 (by decide)).1.trans h48)) ((by decide)) hcap H.size) (cwV 1 htu gU_X8_out rfl rfl rfl (by decide +kernel) ⟨show 0 + 1 ≤ (d + 1) + 2 by omega, show 8 + (2 + 11) + 0 ≤ 22 * (d + 1) + 50 by omega⟩) hP hK rfl hl.1 rfl (lv_room (Nat.le_of_ble_eq_true rfl)) dX8_tellValue_93) hS (fun o_27 F_28 H locs hw_29 hP hS => ?_)
    try dsimp only at hw_29
    obtain ⟨b_30g, b_30q0⟩ := MG9.out hG hw_29
    have b_30q : Kq LTl o F (o_27, F_28) := (Kq.rf (L := LTl) (o := o) (F := F)).tr (b_30q0.mono (by decide))
    have b_30c : (lput 200 L9 (b8 123)).length ≤ 200 := (lput_len hcap).1
    refine lv_iconst (v := 0) hx hb dX8_tellValue_96 (by decide) ?_
    refine lv_istore_n (lv' := [(2, .int 0), (0, .ref (mh G)), (1, .int (nI (φ v9)))]) hx hb dX8_tellValue_97 rfl hl (by decide) rfl (fun ls hl => ?_)
    refine w_loop (fun j H locs k sl g => ∃ (o1 : Nat → Int32) (F1 : Nat → Nat → Int32) (Lq : List Int32) (i : Nat) (ls : Array Slot), i + j = tr 2 m9 ∧ MG9 o1 F1 Lq ∧ Lq.length ≤ 200 ∧ Kq LTl o F (o1, F1) ∧ lput 200 (wmtl tr m9 (wmt tr ws d) (ws.2.2 v9) j i Lq) (b8 125) = wmt tr ws (d + 1) v9 L9 ∧ 200 ≤ Lq.length + d ∧ k = 0 ∧ sl = 0 ∧ mP G o1 F1 H ∧ va_S (mA G s.heap.size) s.heap H locs ∧ lv_has ls 3 [(0, .ref (mh G)), (1, .int (nI (φ v9))), (2, .int (nI i))] ∧ g = F0 m 98 ls []) ?_ ?_ ((tr 2 m9)) _ _ _ _ _ ⟨o_27, F_28, (lput 200 L9 (b8 123)), 0, ls, by omega, b_30g, b_30c, b_30q, (by rw [wmt_3 hnf hso, hm9]), (by rw [lput_lt hnf, List.length_append, List.length_singleton]; omega), rfl, rfl, hP, hS, lv_sub hl [1, 2, 0] rfl, rfl⟩
    · intro H locs k sl g hI
      obtain ⟨o1, F1, Lq, i, ls, hp0, hp1, hp2, hp3, hp4, hp5, rfl, rfl, hP, hS, hl, rfl⟩ := hI
      refine lv_iload_n hx hb dX8_tellValue_98 rfl (lv_at hl 2 rfl) ?_
      refine lv_aload_n hx hb dX8_tellValue_99 rfl (lv_at hl 0 rfl) ?_
      refine m_get (v := .ref (md G 54)) hx hb htu wu_in hown hK hP 54 (by decide) (htu _ U_239) rfl rfl dX8_tellValue_100 ?_
      refine lv_iload_n hx hb dX8_tellValue_103 rfl (lv_at hl 1 rfl) ?_
      refine m_ald (j := φ v9) (v := nI (tr 2 m9)) hx hb hK hP 33 54 rfl (by omega) (by decide) ((congrFun ((hp3 54 (by decide)).2) _).trans v2_) dX8_tellValue_104 ?_
      refine lv_icmp_ge (tgt := 152) hx hb dX8_tellValue_105 (by decide) (fun c_31 => ?_) (fun c_31 => absurd (nI_le (by omega) (by omega)) c_31)
      refine lv_aload_n hx hb dX8_tellValue_152 rfl (lv_at hl 0 rfl) ?_
      refine lv_bipush (v := 125) hx hb dX8_tellValue_153 (by decide) ?_
      refine m_cv (m_runV (As := [.int 125]) (rest := []) ⟨hx, hb, hml, hown, htu⟩ (m_out l G hDD o1 F1 ((Lq).length) 200 125 hp1.1 (((hp3 48 (by decide)).1.trans h48)) ((by decide)) hp2 H.size) (cwV 1 htu gU_X8_out rfl rfl rfl (by decide +kernel) ⟨show 0 + 1 ≤ (d + 1) + 2 by omega, show 8 + (2 + 11) + 0 ≤ 22 * (d + 1) + 50 by omega⟩) hP hK rfl hl.1 rfl (lv_room (Nat.le_of_ble_eq_true rfl)) dX8_tellValue_155) hS (fun o_33 F_34 H locs hw_35 hP hS => ?_)
      try dsimp only at hw_35
      obtain ⟨b_36g, b_36q0⟩ := MG9.out hp1 hw_35
      have b_36q : Kq LTl o F (o_33, F_34) := hp3.tr (b_36q0.mono (by decide))
      have b_36c : (lput 200 Lq (b8 125)).length ≤ 200 := (lput_len hp2).1
      exact m_vret hx hb hr hK hP hS ⟨by rw [← hp4]; have hj : wmtl tr m9 (wmt tr ws d) (ws.2.2 v9) 0 i Lq = Lq := rfl; rw [hj]; exact b_36g, b_36q⟩ dX8_tellValue_158 hlocks
    · intro j ih9 H locs k sl g hI
      obtain ⟨o1, F1, Lq, i, ls, hp0, hp1, hp2, hp3, hp4, hp5, rfl, rfl, hP, hS, hl, rfl⟩ := hI
      have ni : i < tr 2 m9 := by omega
      refine lv_iload_n hx hb dX8_tellValue_98 rfl (lv_at hl 2 rfl) ?_
      refine lv_aload_n hx hb dX8_tellValue_99 rfl (lv_at hl 0 rfl) ?_
      refine m_get (v := .ref (md G 54)) hx hb htu wu_in hown hK hP 54 (by decide) (htu _ U_239) rfl rfl dX8_tellValue_100 ?_
      refine lv_iload_n hx hb dX8_tellValue_103 rfl (lv_at hl 1 rfl) ?_
      refine m_ald (j := φ v9) (v := nI (tr 2 m9)) hx hb hK hP 33 54 rfl (by omega) (by decide) ((congrFun ((hp3 54 (by decide)).2) _).trans v2_) dX8_tellValue_104 ?_
      refine lv_icmp_ge (tgt := 152) hx hb dX8_tellValue_105 (by decide) (fun c_37 => absurd c_37 (nI_ge ni (by omega))) (fun c_37 => ?_)
      refine lv_aload_n hx hb dX8_tellValue_108 rfl (lv_at hl 0 rfl) ?_
      refine lv_bipush (v := 97) hx hb dX8_tellValue_109 (by decide) ?_
      refine lv_aload_n hx hb dX8_tellValue_111 rfl (lv_at hl 0 rfl) ?_
      refine m_get (v := .ref (md G 5)) hx hb htu wu_in hown hK hP 5 (by decide) (htu _ U_7) rfl rfl dX8_tellValue_112 ?_
      refine lv_bipush (v := 6) hx hb dX8_tellValue_115 (by decide) ?_
      refine lv_aload_n hx hb dX8_tellValue_117 rfl (lv_at hl 0 rfl) ?_
      refine m_get (v := .ref (md G 53)) hx hb htu wu_in hown hK hP 53 (by decide) (htu _ U_238) rfl rfl dX8_tellValue_118 ?_
      refine lv_iload_n hx hb dX8_tellValue_121 rfl (lv_at hl 1 rfl) ?_
      refine m_ald (j := φ v9) (v := nI m9) hx hb hK hP 32 53 rfl (by omega) (by decide) ((congrFun ((hp3 53 (by decide)).2) _).trans v1_) dX8_tellValue_122 ?_
      refine lv_imul hx hb dX8_tellValue_123 ?_
      refine m_top (y := nI (6 * m9)) (pk_mul 6 m9) ?_
      refine lv_iload_n hx hb dX8_tellValue_124 rfl (lv_at hl 2 rfl) ?_
      refine lv_iadd hx hb dX8_tellValue_125 ?_
      refine m_top (y := nI (6 * m9 + i)) (nI_add (6 * m9) i) ?_
      refine m_ald (j := 6 * m9 + i) (v := nI (tr (20 + i) m9)) hx hb hK hP 5 5 rfl (by omega) (by decide) ((congrFun ((hp3 5 (by decide)).2) _).trans (y2_ i ni).1) dX8_tellValue_126 ?_
      refine lv_iadd hx hb dX8_tellValue_127 ?_
      refine m_top (y := nI (97 + (tr (20 + i) m9))) (nI_add 97 (tr (20 + i) m9)) ?_
      refine m_cv (m_runV (As := [.int (nI (97 + (tr (20 + i) m9)))]) (rest := []) ⟨hx, hb, hml, hown, htu⟩ (m_out l G hDD o1 F1 ((Lq).length) 200 (nI (97 + (tr (20 + i) m9))) hp1.1 (((hp3 48 (by decide)).1.trans h48)) ((by decide)) hp2 H.size) (cwV 1 htu gU_X8_out rfl rfl rfl (by decide +kernel) ⟨show 0 + 1 ≤ (d + 1) + 2 by omega, show 8 + (2 + 11) + 0 ≤ 22 * (d + 1) + 50 by omega⟩) hP hK rfl hl.1 rfl (lv_room (Nat.le_of_ble_eq_true rfl)) dX8_tellValue_128) hS (fun o_39 F_40 H locs hw_41 hP hS => ?_)
      try dsimp only at hw_41
      obtain ⟨b_42g, b_42q0⟩ := MG9.out hp1 hw_41
      have b_42q : Kq LTl o F (o_39, F_40) := hp3.tr (b_42q0.mono (by decide))
      have b_42c : (lput 200 Lq (b8 (nI (97 + (tr (20 + i) m9))))).length ≤ 200 := (lput_len hp2).1
      have hLL := (lput_len (cap := 200) (b := b8 (nI (97 + tr (20 + i) m9))) hp2).2
      have hl6 := h6
      refine lv_aload_n hx hb dX8_tellValue_131 rfl (lv_at hl 0 rfl) ?_
      refine lv_aload_n hx hb dX8_tellValue_132 rfl (lv_at hl 0 rfl) ?_
      refine m_get (v := .ref (md G 55)) hx hb htu wu_in hown hK hP 55 (by decide) (htu _ U_240) rfl rfl dX8_tellValue_133 ?_
      refine lv_bipush (v := 6) hx hb dX8_tellValue_136 (by decide) ?_
      refine lv_iload_n hx hb dX8_tellValue_138 rfl (lv_at hl 1 rfl) ?_
      refine lv_imul hx hb dX8_tellValue_139 ?_
      refine m_top (y := nI (6 * (φ v9))) (pk_mul 6 (φ v9)) ?_
      refine lv_iload_n hx hb dX8_tellValue_140 rfl (lv_at hl 2 rfl) ?_
      refine lv_iadd hx hb dX8_tellValue_141 ?_
      refine m_top (y := nI (6 * (φ v9) + i)) (nI_add (6 * (φ v9)) i) ?_
      refine m_ald (j := 6 * (φ v9) + i) (v := nI (φ ((ws.2.2 v9).getD i 0))) hx hb hK hP 34 55 rfl (by omega) (by decide) ((congrFun ((b_42q 55 (by decide)).2) _).trans (v3_ i (by rw [x3_]; exact ni))) dX8_tellValue_142 ?_
      refine m_cv (m_runV (As := [.int (nI (φ ((ws.2.2 v9).getD i 0)))]) (rest := []) ⟨hx, hb, hml, hown, htu⟩ (ih l G hDD o_39 F_40 tr N dp ws φ ((lput 200 Lq (b8 (nI (97 + (tr (20 + i) m9)))))) ((ws.2.2 v9).getD i 0) ((fun v hv => ⟨(hM v hv).1, (hM v hv).2.keep (hWf.1 v hv) hl6 Xt.rf hv (fun _ _ => rfl) (congrFun (b_42q 52 (by decide)).2 _) (congrFun (b_42q 53 (by decide)).2 _) (congrFun (b_42q 54 (by decide)).2 _) (fun i _ => congrFun (b_42q 55 (by decide)).2 _)⟩)) hWf hN h6 ((fun n hn h5 => ⟨(hlb n hn h5).1, fun i hi => ⟨(congrFun (b_42q 5 (by decide)).2 _).trans ((hlb n hn h5).2 i hi).1, ((hlb n hn h5).2 i hi).2⟩⟩)) b_42g b_42c (((b_42q 48 (by decide)).1.trans h48)) ((by omega)) ((x4_ _ (gD_mem (by omega)))) H.size) (cwV 1 htu gU_X8_tellValue rfl rfl rfl (by decide +kernel) ⟨show (d + 2) + 1 ≤ (d + 1) + 2 by omega, show 8 + (3 + 11) + (22 * d + 50) ≤ 22 * (d + 1) + 50 by omega⟩) hP hK rfl hl.1 rfl (lv_room (Nat.le_of_ble_eq_true rfl)) dX8_tellValue_143) hS (fun o_44 F_45 H locs hw_46 hP hS => ?_)
      try dsimp only at hw_46
      obtain ⟨b_47g, b_47q0⟩ := hw_46
      have b_47q : Kq LTl o F (o_44, F_45) := b_42q.tr b_47q0
      have b_47c : (wmt tr ws d ((ws.2.2 v9).getD i 0) (lput 200 Lq (b8 (nI (97 + (tr (20 + i) m9)))))).length ≤ 200 := wmt_len _ _ _ b_42c
      refine lv_iinc (v := nI (i + 1)) (lv' := [(2, .int (nI (i + 1))), (0, .ref (mh G)), (1, .int (nI (φ v9)))]) hx hb dX8_tellValue_146 hl (k := 2) rfl (nI_1 i) (by decide) rfl (fun ls hl => ?_)
      refine lv_goto (tgt := 98) hx hb dX8_tellValue_149 (by decide) ?_
      exact ih9 _ _ _ _ _ ⟨o_44, F_45, (wmt tr ws d ((ws.2.2 v9).getD i 0) (lput 200 Lq (b8 (nI (97 + (tr (20 + i) m9)))))), i + 1, ls, by omega, b_47g, b_47c, b_47q, hp4, (Nat.le_trans (by omega) (Nat.add_le_add_right (wmt_ge _ _ _) d)), rfl, rfl, hP, hS, lv_sub hl [1, 2, 0] rfl, rfl⟩
  · skip
    exact m_vret hx hb hr hK hP hS ⟨by rw [wmt_full (fun q => absurd ((nI_eq (a := L9.length) (b := 200) (by omega) (by omega)).mp c_1) (by omega))]; exact hG, Kq.rf⟩ dX8_tellValue_11 hlocks

theorem xm_tellX_all : ∀ d : Nat, xmTellAt d := by
  intro d
  induction d with
  | zero =>
    intro l G hDD o F tr N dp ws φ L9 v9 hM hWf hN h6 hlb hG hcap h48 hd hv sz
    exact xm_tellX_0 l G hDD o F tr N dp ws φ L9 v9 hM hWf hN h6 hlb hG hcap h48 hd hv sz
  | succ d ih =>
    intro l G hDD o F tr N dp ws φ L9 v9 hM hWf hN h6 hlb hG hcap h48 hd hv sz
    exact xm_tellX_s l G hDD o F d tr N dp ws φ L9 v9 ih hM hWf hN h6 hlb hG hcap h48 hd hv sz

