def xmDoesAt (fu : Nat) : Prop := ∀ (l : Launch) (G : mG) (hDD : mDD G) (o : Nat → Int32) (F : Nat → Nat → Int32) (tr : aM) (N : Nat) (dp : Nat → Nat) (mk : Nat → Int32) (al : Nat) (vs : Nat) (φ : Nat → Nat) (ws : wmS) (n : Nat) (e9 : Nat) (hT : TRm tr N o F) (hmk : ∀ n, n < N → F 2 n = mk n) (hTm : wmT tr N dp) (hR : MR9 tr al vs o F ws φ) (hWf : wmW tr N dp ws) (h0 : hlt ws = 0) (h67 : o 67 ≠ 0) (hz : vs ≤ bgn ws ∧ ne ws ≤ bgn ws ∧ bgn ws ≤ al ∧ al ≤ 300) (hn : n < N) (he : e9 ≤ ne ws) (hel : eln ws e9 ≤ dp n) (hd : o 64 = nI (60 - fu)) (hfu : fu ≤ 60) (sz : Nat), Met l yX8_does (wU yX8_does cX8_does 4 (some .int)) { frames := 3 * fu + 3, cells := 0, slots := 0, locals := 80 * fu + 100 } (mPc G o F sz [.ref (mh G), .int (nI n), .int (sgt e9)]) (mQi G sz (fun r u => YQ tr al vs 0 φ o F ws (wmx tr mk al fu ws n e9) r u)) 0 0 (mA G sz)

def xmSeenAt (fu : Nat) : Prop := ∀ (l : Launch) (G : mG) (hDD : mDD G) (o : Nat → Int32) (F : Nat → Nat → Int32) (tr : aM) (N : Nat) (dp : Nat → Nat) (mk : Nat → Int32) (al : Nat) (vs : Nat) (φ : Nat → Nat) (ws : wmS) (n : Nat) (e9 : Nat) (hT : TRm tr N o F) (hmk : ∀ n, n < N → F 2 n = mk n) (hTm : wmT tr N dp) (hR : MR9 tr al vs o F ws φ) (hWf : wmW tr N dp ws) (h0 : hlt ws = 0) (h67 : o 67 ≠ 0) (hz : vs ≤ bgn ws ∧ ne ws ≤ bgn ws ∧ bgn ws ≤ al ∧ al ≤ 300) (hn : n < N) (he : e9 ≤ ne ws) (hel : eln ws e9 ≤ dp n) (hd : o 64 = nI (60 - fu)) (hfu : fu ≤ 60) (hk : tr 0 n = 2) (sz : Nat), Met l yX8_seen (wU yX8_seen cX8_seen 4 (some .int)) { frames := 3 * fu + 4, cells := 0, slots := 0, locals := 80 * fu + 123 } (mPc G o F sz [.ref (mh G), .int (nI n), .int (sgt e9)]) (mQi G sz (fun r u => YQ tr al vs 0 φ o F ws (wmName tr (wmx tr mk al fu) ws n e9) r u)) 0 0 (mA G sz)

def xmDoingAt (fu : Nat) : Prop := ∀ (l : Launch) (G : mG) (hDD : mDD G) (o : Nat → Int32) (F : Nat → Nat → Int32) (tr : aM) (N : Nat) (dp : Nat → Nat) (mk : Nat → Int32) (al : Nat) (vs : Nat) (φ : Nat → Nat) (ws : wmS) (n : Nat) (e9 : Nat) (hT : TRm tr N o F) (hmk : ∀ n, n < N → F 2 n = mk n) (hTm : wmT tr N dp) (hR : MR9 tr al vs o F ws φ) (hWf : wmW tr N dp ws) (h0 : hlt ws = 0) (h67 : o 67 ≠ 0) (hz : vs + 1 ≤ bgn ws ∧ ne ws + 1 ≤ bgn ws ∧ bgn ws ≤ al ∧ al ≤ 300) (hn : n < N) (he : e9 ≤ ne ws) (hel : eln ws e9 ≤ dp n) (hd : o 64 = nI (60 - fu)) (hfu : fu ≤ 60) (sz : Nat), Met l yX8_doing (wU yX8_doing cX8_doing 7 (some .int)) { frames := 3 * fu + 5, cells := 0, slots := 0, locals := 80 * fu + 146 } (mPc G o F sz [.ref (mh G), .int (nI n), .int (sgt e9)]) (mQi G sz (fun r u => YQ tr al vs 1 φ o F ws (wmd tr mk (wmx tr mk al fu) ws n e9) r u)) 0 0 (mA G sz)

set_option maxHeartbeats 4000000 in
set_option maxRecDepth 100000 in
/-- does, halted -/
theorem xm_does_h (l : Launch) (G : mG) (hDD : mDD G) (o : Nat → Int32) (F : Nat → Nat → Int32) (x : Int32) (y : Int32) (h67 : o 67 = 0) (sz : Nat) : Met l yX8_does (wU yX8_does cX8_does 4 (some .int)) { frames := 0, cells := 0, slots := 0, locals := 0 } (mPc G o F sz [.ref (mh G), .int x, .int y]) (mQi G sz (fun r u => r = -9 ∧ u = (o, F))) 0 0 (mA G sz) := by
  refine Met.ofW (cc := cX8_does) (maxL := 4) (ret := (some .int)) (by decide) rfl ?_
  intro p e s m args below meth c s₁ B hml hv
  obtain ⟨rfl, hsz, hP, hK⟩ := hv
  have hx := B.exec
  have hb := B.bytes
  have hr := B.returns
  have htu : ∀ w ∈ WU, w.before _ s = true := fun w h => atoms_spec (ws := (wU yX8_does cX8_does 4 (some .int))) B.pre w (List.mem_cons_of_mem _ h)
  have hown : s.vm.findClass RX8 = some m.cls := findClass_of_methodNamed B.named
  have hlocks := B.notSynchronized
  subst hsz
  have hS : va_S (mA G s.heap.size) s.heap s.heap [] := va_S.rf
  have hl := lv_entry ([.ref (mh G), .int x, .int y]) (n := 4) (Nat.le_of_ble_eq_true rfl)
  rw [lg_entry_eq]
  generalize (lg_sl ([.ref (mh G), .int x, .int y]) ++ List.replicate (4 - (lg_sl ([.ref (mh G), .int x, .int y])).length) Slot.unset).toArray = ls at hl ⊢
  have hl : lv_has ls 4 [(0, .ref (mh G)), (1, .int x), (2, .int y)] := hl
  obtain ⟨H, hHe⟩ : ∃ H : Heap, H = s.heap := ⟨_, rfl⟩
  rw [← hHe] at hP
  have hS : va_S (mA G s.heap.size) s.heap H [] := by rw [hHe]; exact va_S.rf
  refine W.heq hHe ?_
  refine lv_aload_n hx hb dX8_does_0 rfl (lv_at hl 0 rfl) ?_
  refine m_get (v := .int (o 67)) hx hb htu wu_in hown hK hP 67 (by decide) (htu _ U_221) rfl rfl dX8_does_1 ?_
  refine lv_if_ne (tgt := 10) hx hb dX8_does_4 (by decide) (fun c_1 => absurd h67 c_1) (fun c_1 => ?_)
  refine lv_bipush (v := (-9)) hx hb dX8_does_7 (by decide) ?_
  exact m_iret (v := (-9)) hx hb hr hK hP hS ⟨rfl, rfl⟩ dX8_does_9 hlocks

set_option maxHeartbeats 4000000 in
set_option maxRecDepth 100000 in
/-- does, too deep -/
theorem xm_does_0 (l : Launch) (G : mG) (hDD : mDD G) (o : Nat → Int32) (F : Nat → Nat → Int32) (tr : aM) (N : Nat) (dp : Nat → Nat) (mk : Nat → Int32) (al : Nat) (vs : Nat) (φ : Nat → Nat) (ws : wmS) (n : Nat) (e9 : Nat) (hT : TRm tr N o F) (hmk : ∀ n, n < N → F 2 n = mk n) (hTm : wmT tr N dp) (hR : MR9 tr al vs o F ws φ) (hWf : wmW tr N dp ws) (h0 : hlt ws = 0) (h67 : o 67 ≠ 0) (hz : vs ≤ bgn ws ∧ ne ws ≤ bgn ws ∧ bgn ws ≤ al ∧ al ≤ 300) (hn : n < N) (he : e9 ≤ ne ws) (hel : eln ws e9 ≤ dp n) (hd : o 64 = nI (60 - 0)) (hfu : 0 ≤ 60) (sz : Nat) : Met l yX8_does (wU yX8_does cX8_does 4 (some .int)) { frames := 3 * 0 + 3, cells := 0, slots := 0, locals := 80 * 0 + 100 } (mPc G o F sz [.ref (mh G), .int (nI n), .int (sgt e9)]) (mQi G sz (fun r u => YQ tr al vs 0 φ o F ws (wmx tr mk al 0 ws n e9) r u)) 0 0 (mA G sz) := by
  refine Met.ofW (cc := cX8_does) (maxL := 4) (ret := (some .int)) (by decide) rfl ?_
  intro p e s m args below meth c s₁ B hml hv
  obtain ⟨rfl, hsz, hP, hK⟩ := hv
  have hx := B.exec
  have hb := B.bytes
  have hr := B.returns
  have htu : ∀ w ∈ WU, w.before _ s = true := fun w h => atoms_spec (ws := (wU yX8_does cX8_does 4 (some .int))) B.pre w (List.mem_cons_of_mem _ h)
  have hown : s.vm.findClass RX8 = some m.cls := findClass_of_methodNamed B.named
  have hlocks := B.notSynchronized
  subst hsz
  have hS : va_S (mA G s.heap.size) s.heap s.heap [] := va_S.rf
  have hl := lv_entry ([.ref (mh G), .int (nI n), .int (sgt e9)]) (n := 4) (Nat.le_of_ble_eq_true rfl)
  rw [lg_entry_eq]
  generalize (lg_sl ([.ref (mh G), .int (nI n), .int (sgt e9)]) ++ List.replicate (4 - (lg_sl ([.ref (mh G), .int (nI n), .int (sgt e9)])).length) Slot.unset).toArray = ls at hl ⊢
  have hl : lv_has ls 4 [(0, .ref (mh G)), (1, .int (nI n)), (2, .int (sgt e9))] := hl
  obtain ⟨H, hHe⟩ : ∃ H : Heap, H = s.heap := ⟨_, rfl⟩
  rw [← hHe] at hP
  have hS : va_S (mA G s.heap.size) s.heap H [] := by rw [hHe]; exact va_S.rf
  refine W.heq hHe ?_
  have hN := hT.2.1
  obtain ⟨a1_, a2_, a3_, a4_⟩ := hR.1
  obtain ⟨hz1, hz2, hz3, hz4⟩ := id hz
  have h6 : ∀ m, m < N → tr 2 m ≤ 6 := fun m h => (hT.2.2 m h).2.2.2.2.1
  refine lv_aload_n hx hb dX8_does_0 rfl (lv_at hl 0 rfl) ?_
  refine m_get (v := .int (o 67)) hx hb htu wu_in hown hK hP 67 (by decide) (htu _ U_221) rfl rfl dX8_does_1 ?_
  refine lv_if_ne (tgt := 10) hx hb dX8_does_4 (by decide) (fun c_1 => ?_) (fun c_1 => absurd c_1 h67)
  refine lv_aload_n hx hb dX8_does_10 rfl (lv_at hl 0 rfl) ?_
  refine m_get (v := .int (nI (bgn ws))) hx hb htu wu_in hown hK hP 62 (by decide) (htu _ U_218) rfl (m_v a3_) dX8_does_11 ?_
  refine lv_aload_n hx hb dX8_does_14 rfl (lv_at hl 0 rfl) ?_
  refine m_get (v := .int (nI al)) hx hb htu wu_in hown hK hP 63 (by decide) (htu _ U_219) rfl (m_v a4_) dX8_does_15 ?_
  refine lv_icmp_eq (tgt := 30) hx hb dX8_does_18 (by decide) (fun c_2 => ?_) (fun c_2 => ?_)
  · skip
    have nc_2 : bgn ws = al := (nI_eq (a := bgn ws) (b := al) (by omega) (by omega)).mp c_2
    refine lv_aload_n hx hb dX8_does_30 rfl (lv_at hl 0 rfl) ?_
    refine lv_iconst (v := 2) hx hb dX8_does_31 (by decide) ?_
    refine lv_iload_n hx hb dX8_does_32 rfl (lv_at hl 1 rfl) ?_
    refine m_ci (m_runV (As := [.int 2, .int (nI n)]) (rest := []) ⟨hx, hb, hml, hown, htu⟩ (m_halts l G hDD o F 2 (nI n) H.size) (cwV 2 htu gU_X8_halts rfl rfl rfl (by decide +kernel) ⟨show 0 + 1 ≤ 3 * 0 + 3 by omega, show 8 + (3 + 11) + 0 ≤ 80 * 0 + 100 by omega⟩) hP hK rfl hl.1 rfl (lv_room (Nat.le_of_ble_eq_true rfl)) dX8_does_33) hS (fun r_3 o_4 F_5 H locs hw_6 hP hS => ?_)
    try dsimp only at hw_6
    exact m_iret (v := r_3) hx hb hr hK hP hS (YK.halt (YK.rf hR) h67 (why := 2) (n := n) (by decide) rfl rfl hw_6.2) dX8_does_36 hlocks
  · skip
    have nc_2 : ¬ bgn ws = al := fun h9 => c_2 ((nI_eq (a := bgn ws) (b := al) (by omega) (by omega)).mpr h9)
    refine lv_aload_n hx hb dX8_does_21 rfl (lv_at hl 0 rfl) ?_
    refine m_get (v := .int 60) hx hb htu wu_in hown hK hP 64 (by decide) (htu _ U_220) rfl (m_v hd) dX8_does_22 ?_
    refine lv_bipush (v := 60) hx hb dX8_does_25 (by decide) ?_
    refine lv_icmp_ne (tgt := 37) hx hb dX8_does_27 (by decide) (fun c_7 => absurd (by decide) c_7) (fun c_7 => ?_)
    refine lv_aload_n hx hb dX8_does_30 rfl (lv_at hl 0 rfl) ?_
    refine lv_iconst (v := 2) hx hb dX8_does_31 (by decide) ?_
    refine lv_iload_n hx hb dX8_does_32 rfl (lv_at hl 1 rfl) ?_
    refine m_ci (m_runV (As := [.int 2, .int (nI n)]) (rest := []) ⟨hx, hb, hml, hown, htu⟩ (m_halts l G hDD o F 2 (nI n) H.size) (cwV 2 htu gU_X8_halts rfl rfl rfl (by decide +kernel) ⟨show 0 + 1 ≤ 3 * 0 + 3 by omega, show 8 + (3 + 11) + 0 ≤ 80 * 0 + 100 by omega⟩) hP hK rfl hl.1 rfl (lv_room (Nat.le_of_ble_eq_true rfl)) dX8_does_33) hS (fun r_8 o_9 F_10 H locs hw_11 hP hS => ?_)
    try dsimp only at hw_11
    exact m_iret (v := r_8) hx hb hr hK hP hS (YK.halt (YK.rf hR) h67 (why := 2) (n := n) (by decide) rfl rfl hw_11.2) dX8_does_36 hlocks

set_option maxHeartbeats 4000000 in
set_option maxRecDepth 100000 in
/-- does, one deeper -/
theorem xm_does_s (l : Launch) (G : mG) (hDD : mDD G) (o : Nat → Int32) (F : Nat → Nat → Int32) (fu : Nat) (tr : aM) (N : Nat) (dp : Nat → Nat) (mk : Nat → Int32) (al : Nat) (vs : Nat) (φ : Nat → Nat) (ws : wmS) (n : Nat) (e9 : Nat) (hG : xmDoingAt fu) (hT : TRm tr N o F) (hmk : ∀ n, n < N → F 2 n = mk n) (hTm : wmT tr N dp) (hR : MR9 tr al vs o F ws φ) (hWf : wmW tr N dp ws) (h0 : hlt ws = 0) (h67 : o 67 ≠ 0) (hz : vs ≤ bgn ws ∧ ne ws ≤ bgn ws ∧ bgn ws ≤ al ∧ al ≤ 300) (hn : n < N) (he : e9 ≤ ne ws) (hel : eln ws e9 ≤ dp n) (hd : o 64 = nI (60 - (fu + 1))) (hfu : fu + 1 ≤ 60) (sz : Nat) : Met l yX8_does (wU yX8_does cX8_does 4 (some .int)) { frames := 3 * (fu + 1) + 3, cells := 0, slots := 0, locals := 80 * (fu + 1) + 100 } (mPc G o F sz [.ref (mh G), .int (nI n), .int (sgt e9)]) (mQi G sz (fun r u => YQ tr al vs 0 φ o F ws (wmx tr mk al (fu + 1) ws n e9) r u)) 0 0 (mA G sz) := by
  refine Met.ofW (cc := cX8_does) (maxL := 4) (ret := (some .int)) (by decide) rfl ?_
  intro p e s m args below meth c s₁ B hml hv
  obtain ⟨rfl, hsz, hP, hK⟩ := hv
  have hx := B.exec
  have hb := B.bytes
  have hr := B.returns
  have htu : ∀ w ∈ WU, w.before _ s = true := fun w h => atoms_spec (ws := (wU yX8_does cX8_does 4 (some .int))) B.pre w (List.mem_cons_of_mem _ h)
  have hown : s.vm.findClass RX8 = some m.cls := findClass_of_methodNamed B.named
  have hlocks := B.notSynchronized
  subst hsz
  have hS : va_S (mA G s.heap.size) s.heap s.heap [] := va_S.rf
  have hl := lv_entry ([.ref (mh G), .int (nI n), .int (sgt e9)]) (n := 4) (Nat.le_of_ble_eq_true rfl)
  rw [lg_entry_eq]
  generalize (lg_sl ([.ref (mh G), .int (nI n), .int (sgt e9)]) ++ List.replicate (4 - (lg_sl ([.ref (mh G), .int (nI n), .int (sgt e9)])).length) Slot.unset).toArray = ls at hl ⊢
  have hl : lv_has ls 4 [(0, .ref (mh G)), (1, .int (nI n)), (2, .int (sgt e9))] := hl
  obtain ⟨H, hHe⟩ : ∃ H : Heap, H = s.heap := ⟨_, rfl⟩
  rw [← hHe] at hP
  have hS : va_S (mA G s.heap.size) s.heap H [] := by rw [hHe]; exact va_S.rf
  refine W.heq hHe ?_
  have hN := hT.2.1
  obtain ⟨a1_, a2_, a3_, a4_⟩ := hR.1
  obtain ⟨hz1, hz2, hz3, hz4⟩ := id hz
  have h6 : ∀ m, m < N → tr 2 m ≤ 6 := fun m h => (hT.2.2 m h).2.2.2.2.1
  refine lv_aload_n hx hb dX8_does_0 rfl (lv_at hl 0 rfl) ?_
  refine m_get (v := .int (o 67)) hx hb htu wu_in hown hK hP 67 (by decide) (htu _ U_221) rfl rfl dX8_does_1 ?_
  refine lv_if_ne (tgt := 10) hx hb dX8_does_4 (by decide) (fun c_1 => ?_) (fun c_1 => absurd c_1 h67)
  refine lv_aload_n hx hb dX8_does_10 rfl (lv_at hl 0 rfl) ?_
  refine m_get (v := .int (nI (bgn ws))) hx hb htu wu_in hown hK hP 62 (by decide) (htu _ U_218) rfl (m_v a3_) dX8_does_11 ?_
  refine lv_aload_n hx hb dX8_does_14 rfl (lv_at hl 0 rfl) ?_
  refine m_get (v := .int (nI al)) hx hb htu wu_in hown hK hP 63 (by decide) (htu _ U_219) rfl (m_v a4_) dX8_does_15 ?_
  refine lv_icmp_eq (tgt := 30) hx hb dX8_does_18 (by decide) (fun c_2 => ?_) (fun c_2 => ?_)
  · skip
    have nc_2 : bgn ws = al := (nI_eq (a := bgn ws) (b := al) (by omega) (by omega)).mp c_2
    refine lv_aload_n hx hb dX8_does_30 rfl (lv_at hl 0 rfl) ?_
    refine lv_iconst (v := 2) hx hb dX8_does_31 (by decide) ?_
    refine lv_iload_n hx hb dX8_does_32 rfl (lv_at hl 1 rfl) ?_
    refine m_ci (m_runV (As := [.int 2, .int (nI n)]) (rest := []) ⟨hx, hb, hml, hown, htu⟩ (m_halts l G hDD o F 2 (nI n) H.size) (cwV 2 htu gU_X8_halts rfl rfl rfl (by decide +kernel) ⟨show 0 + 1 ≤ 3 * (fu + 1) + 3 by omega, show 8 + (3 + 11) + 0 ≤ 80 * (fu + 1) + 100 by omega⟩) hP hK rfl hl.1 rfl (lv_room (Nat.le_of_ble_eq_true rfl)) dX8_does_33) hS (fun r_3 o_4 F_5 H locs hw_6 hP hS => ?_)
    try dsimp only at hw_6
    exact m_iret (v := r_3) hx hb hr hK hP hS (by rw [show wmx tr mk al (fu + 1) ws n e9 = wmh ws 2 n from if_pos (by omega)]; exact (YK.halt (YK.rf hR) h67 (why := 2) (n := n) (by decide) rfl rfl hw_6.2)) dX8_does_36 hlocks
  · skip
    have nc_2 : ¬ bgn ws = al := fun h9 => c_2 ((nI_eq (a := bgn ws) (b := al) (by omega) (by omega)).mpr h9)
    refine lv_aload_n hx hb dX8_does_21 rfl (lv_at hl 0 rfl) ?_
    refine m_get (v := .int (nI (60 - (fu + 1)))) hx hb htu wu_in hown hK hP 64 (by decide) (htu _ U_220) rfl (m_v hd) dX8_does_22 ?_
    refine lv_bipush (v := 60) hx hb dX8_does_25 (by decide) ?_
    refine lv_icmp_ne (tgt := 37) hx hb dX8_does_27 (by decide) (fun c_7 => ?_) (fun c_7 => absurd c_7 (fun h9 => absurd ((nI_eq (b := 60) (by omega) (by omega)).mp h9) (by omega)))
    refine lv_aload_n hx hb dX8_does_37 rfl (lv_at hl 0 rfl) ?_
    refine lv_dup hx hb dX8_does_38 rfl ?_
    refine m_get (v := .int (nI (bgn ws))) hx hb htu wu_in hown hK hP 62 (by decide) (htu _ U_218) rfl (m_v a3_) dX8_does_39 ?_
    refine lv_iconst (v := 1) hx hb dX8_does_42 (by decide) ?_
    refine lv_iadd hx hb dX8_does_43 ?_
    refine m_top (y := nI (bgn ws + 1)) (nI_add (bgn ws) 1) ?_
    refine m_put (ty := .int) (x := nI (bgn ws + 1)) hx hb htu wu_in hown hK hP hDD hS 62 (by decide) (htu _ U_218) rfl rfl (by decide +kernel) rfl rfl (mO_s62 _ _ _) dX8_does_44 (fun H locs hP hS => ?_)
    refine lv_aload_n hx hb dX8_does_47 rfl (lv_at hl 0 rfl) ?_
    refine lv_dup hx hb dX8_does_48 rfl ?_
    refine m_get (v := .int (nI (60 - (fu + 1)))) hx hb htu wu_in hown hK hP 64 (by decide) (htu _ U_220) rfl (m_v hd) dX8_does_49 ?_
    refine lv_iconst (v := 1) hx hb dX8_does_52 (by decide) ?_
    refine lv_iadd hx hb dX8_does_53 ?_
    refine m_top (y := nI (60 - (fu + 1) + 1)) (nI_add (60 - (fu + 1)) 1) ?_
    refine m_put (ty := .int) (x := nI (60 - (fu + 1) + 1)) hx hb htu wu_in hown hK hP hDD hS 64 (by decide) (htu _ U_220) rfl rfl (by decide +kernel) rfl rfl (mO_s64 _ _ _) dX8_does_54 (fun H locs hP hS => ?_)
    refine lv_aload_n hx hb dX8_does_57 rfl (lv_at hl 0 rfl) ?_
    refine lv_iload_n hx hb dX8_does_58 rfl (lv_at hl 1 rfl) ?_
    refine lv_iload_n hx hb dX8_does_59 rfl (lv_at hl 2 rfl) ?_
    refine m_ci (m_runV (As := [.int (nI n), .int (sgt e9)]) (rest := []) ⟨hx, hb, hml, hown, htu⟩ (hG l G hDD (upd (upd o 62 (nI (bgn ws + 1))) 64 (nI (60 - (fu + 1) + 1))) F tr N dp mk al vs φ ((wmb ws)) n e9 (⟨hT.1, hT.2⟩) hmk hTm hR.beg ((w_wmq hWf (by decide))) h0 h67 ((show vs + 1 ≤ bgn ws + 1 ∧ ne ws + 1 ≤ bgn ws + 1 ∧ bgn ws + 1 ≤ al ∧ al ≤ 300 by omega)) hn he hel ((congrArg nI (by omega))) ((by omega)) H.size) (cwV 2 htu gU_X8_doing rfl rfl rfl (by decide +kernel) ⟨show (3 * fu + 5) + 1 ≤ 3 * (fu + 1) + 3 by omega, show 8 + (7 + 11) + (80 * fu + 146) ≤ 80 * (fu + 1) + 100 by omega⟩) hP hK rfl hl.1 rfl (lv_room (Nat.le_of_ble_eq_true rfl)) dX8_does_60) hS (fun r_8 o_9 F_10 H locs hw_11 hP hS => ?_)
    try dsimp only at hw_11
    refine lv_istore_n (lv' := [(3, .int r_8), (0, .ref (mh G)), (1, .int (nI n)), (2, .int (sgt e9))]) hx hb dX8_does_63 rfl hl (by decide) rfl (fun ls hl => ?_)
    refine lv_aload_n hx hb dX8_does_64 rfl (lv_at hl 1 rfl) ?_
    refine lv_dup hx hb dX8_does_65 rfl ?_
    refine m_get (v := .int (nI (60 - (fu + 1) + 1))) hx hb htu wu_in hown hK hP 64 (by decide) (htu _ U_220) rfl (m_v (YQ.q64 hw_11)) dX8_does_66 ?_
    refine lv_iconst (v := 1) hx hb dX8_does_69 (by decide) ?_
    refine lv_isub hx hb dX8_does_70 ?_
    refine m_top (y := nI (60 - (fu + 1))) (nI_pred _) ?_
    refine m_put (ty := .int) (x := nI (60 - (fu + 1))) hx hb htu wu_in hown hK hP hDD hS 64 (by decide) (htu _ U_220) rfl rfl (by decide +kernel) rfl rfl (mO_s64 _ _ _) dX8_does_71 (fun H locs hP hS => ?_)
    refine lv_aload_n hx hb dX8_does_74 rfl (lv_at hl 1 rfl) ?_
    refine m_get (v := .int (o_9 67)) hx hb htu wu_in hown hK hP 67 (by decide) (htu _ U_221) rfl rfl dX8_does_75 ?_
    refine lv_if_eq (tgt := 85) hx hb dX8_does_78 (by decide) (fun c_12 => ?_) (fun c_12 => ?_)
    · skip
      refine lv_bipush (v := (-9)) hx hb dX8_does_85 (by decide) ?_
      exact m_iret (v := (-9)) hx hb hr hK hP hS (by rw [wmx_s (show ¬ al ≤ bgn ws by omega)]; exact YQ.done hw_11 (fun z => absurd c_12 (YQ.go hw_11 h67 z)) hd.symm) dX8_does_87 hlocks
    · skip
      refine lv_iload_n hx hb dX8_does_81 rfl (lv_at hl 0 rfl) ?_
      refine lv_goto (tgt := 87) hx hb dX8_does_82 (by decide) ?_
      exact m_iret (v := r_8) hx hb hr hK hP hS (by rw [wmx_s (show ¬ al ≤ bgn ws by omega)]; exact YQ.done hw_11 (fun _ => rfl) hd.symm) dX8_does_87 hlocks

set_option maxHeartbeats 4000000 in
set_option maxRecDepth 100000 in
/-- seen -/
theorem xm_seen (l : Launch) (G : mG) (hDD : mDD G) (o : Nat → Int32) (F : Nat → Nat → Int32) (fu : Nat) (tr : aM) (N : Nat) (dp : Nat → Nat) (mk : Nat → Int32) (al : Nat) (vs : Nat) (φ : Nat → Nat) (ws : wmS) (n : Nat) (e9 : Nat) (ih : xmDoesAt fu) (hT : TRm tr N o F) (hmk : ∀ n, n < N → F 2 n = mk n) (hTm : wmT tr N dp) (hR : MR9 tr al vs o F ws φ) (hWf : wmW tr N dp ws) (h0 : hlt ws = 0) (h67 : o 67 ≠ 0) (hz : vs ≤ bgn ws ∧ ne ws ≤ bgn ws ∧ bgn ws ≤ al ∧ al ≤ 300) (hn : n < N) (he : e9 ≤ ne ws) (hel : eln ws e9 ≤ dp n) (hd : o 64 = nI (60 - fu)) (hfu : fu ≤ 60) (hk : tr 0 n = 2) (sz : Nat) : Met l yX8_seen (wU yX8_seen cX8_seen 4 (some .int)) { frames := 3 * fu + 4, cells := 0, slots := 0, locals := 80 * fu + 123 } (mPc G o F sz [.ref (mh G), .int (nI n), .int (sgt e9)]) (mQi G sz (fun r u => YQ tr al vs 0 φ o F ws (wmName tr (wmx tr mk al fu) ws n e9) r u)) 0 0 (mA G sz) := by
  refine Met.ofW (cc := cX8_seen) (maxL := 4) (ret := (some .int)) (by decide) rfl ?_
  intro p e s m args below meth c s₁ B hml hv
  obtain ⟨rfl, hsz, hP, hK⟩ := hv
  have hx := B.exec
  have hb := B.bytes
  have hr := B.returns
  have htu : ∀ w ∈ WU, w.before _ s = true := fun w h => atoms_spec (ws := (wU yX8_seen cX8_seen 4 (some .int))) B.pre w (List.mem_cons_of_mem _ h)
  have hown : s.vm.findClass RX8 = some m.cls := findClass_of_methodNamed B.named
  have hlocks := B.notSynchronized
  subst hsz
  have hS : va_S (mA G s.heap.size) s.heap s.heap [] := va_S.rf
  have hl := lv_entry ([.ref (mh G), .int (nI n), .int (sgt e9)]) (n := 4) (Nat.le_of_ble_eq_true rfl)
  rw [lg_entry_eq]
  generalize (lg_sl ([.ref (mh G), .int (nI n), .int (sgt e9)]) ++ List.replicate (4 - (lg_sl ([.ref (mh G), .int (nI n), .int (sgt e9)])).length) Slot.unset).toArray = ls at hl ⊢
  have hl : lv_has ls 4 [(0, .ref (mh G)), (1, .int (nI n)), (2, .int (sgt e9))] := hl
  obtain ⟨H, hHe⟩ : ∃ H : Heap, H = s.heap := ⟨_, rfl⟩
  rw [← hHe] at hP
  have hS : va_S (mA G s.heap.size) s.heap H [] := by rw [hHe]; exact va_S.rf
  refine W.heq hHe ?_
  have hN := hT.2.1
  obtain ⟨a1_, a2_, a3_, a4_⟩ := hR.1
  obtain ⟨hz1, hz2, hz3, hz4⟩ := id hz
  have h6 : ∀ m, m < N → tr 2 m ≤ 6 := fun m h => (hT.2.2 m h).2.2.2.2.1
  refine lv_iload_n hx hb dX8_seen_0 rfl (lv_at hl 2 rfl) ?_
  refine lv_istore_n (lv' := [(3, .int (sgt e9)), (0, .ref (mh G)), (1, .int (nI n)), (2, .int (sgt e9))]) hx hb dX8_seen_1 rfl hl (by decide) rfl (fun ls hl => ?_)
  refine w_loop (fun j H locs k sl g => ∃ (k9 : Nat) (ls : Array Slot), k9 ≤ ne ws ∧ eln ws k9 ≤ j ∧ wmk ws (tr 1 n) j k9 = wmk ws (tr 1 n) 120 e9 ∧ k = 0 ∧ sl = 0 ∧ mP G o F H ∧ va_S (mA G s.heap.size) s.heap H locs ∧ lv_has ls 4 [(0, .ref (mh G)), (1, .int (nI n)), (2, .int (sgt e9)), (3, .int (sgt k9))] ∧ g = F0 m 2 ls []) ?_ ?_ 120 _ _ _ _ _ ⟨e9, ls, he, (by have := hTm.2.1 n hn; omega), rfl, rfl, rfl, hP, hS, lv_sub hl [1, 2, 3, 0] rfl, rfl⟩
  · intro H locs k sl g hI
    obtain ⟨k9, ls, hp0, hp1, hp2, rfl, rfl, hP, hS, hl, rfl⟩ := hI
    have hk0 : k9 = 0 := Classical.byContradiction (fun z => by obtain ⟨q, rfl⟩ : ∃ q, k9 = q + 1 := ⟨k9 - 1, by omega⟩; have := eln_s hWf (q := q) (by omega); omega)
    subst hk0
    have hk9 : sgt 0 = -9 := rfl
    have hw0 : wmk ws (tr 1 n) 120 e9 = 0 := hp2.symm.trans (wmk_z _)
    refine lv_iload_n hx hb dX8_seen_2 rfl (lv_at hl 3 rfl) ?_
    refine lv_bipush (v := (-9)) hx hb dX8_seen_3 (by decide) ?_
    refine lv_icmp_eq (tgt := 33) hx hb dX8_seen_5 (by decide) (fun c_1 => ?_) (fun c_1 => absurd hk9 c_1)
    refine lv_iload_n hx hb dX8_seen_33 rfl (lv_at hl 3 rfl) ?_
    refine lv_bipush (v := (-9)) hx hb dX8_seen_34 (by decide) ?_
    refine lv_icmp_ne (tgt := 46) hx hb dX8_seen_36 (by decide) (fun c_2 => absurd hk9 c_2) (fun c_2 => ?_)
    refine lv_aload_n hx hb dX8_seen_39 rfl (lv_at hl 0 rfl) ?_
    refine lv_iconst (v := 1) hx hb dX8_seen_40 (by decide) ?_
    refine lv_iload_n hx hb dX8_seen_41 rfl (lv_at hl 1 rfl) ?_
    refine m_ci (m_runV (As := [.int 1, .int (nI n)]) (rest := []) ⟨hx, hb, hml, hown, htu⟩ (m_halts l G hDD o F 1 (nI n) H.size) (cwV 2 htu gU_X8_halts rfl rfl rfl (by decide +kernel) ⟨show 0 + 1 ≤ 3 * fu + 4 by omega, show 8 + (3 + 11) + 0 ≤ 80 * fu + 123 by omega⟩) hP hK rfl hl.1 rfl (lv_room (Nat.le_of_ble_eq_true rfl)) dX8_seen_42) hS (fun r_3 o_4 F_5 H locs hw_6 hP hS => ?_)
    try dsimp only at hw_6
    exact m_iret (v := r_3) hx hb hr hK hP hS (by rw [show wmName tr (wmx tr mk al fu) ws n e9 = wmh ws 1 n from if_pos hw0]; exact YK.halt (YK.rf hR) (fun h => h67 ((YK.rf hR).2.2.2.1.2.2.2.symm.trans h)) (why := 1) (n := n) (by decide) rfl rfl hw_6.2) dX8_seen_45 hlocks
  · intro j ih9 H locs k sl g hI
    obtain ⟨k9, ls, hp0, hp1, hp2, rfl, rfl, hP, hS, hl, rfl⟩ := hI
    by_cases hk0 : k9 = 0
    · skip
      subst hk0
      have hk9 : sgt 0 = -9 := rfl
      have hw0 : wmk ws (tr 1 n) 120 e9 = 0 := hp2.symm.trans (wmk_z _)
      refine lv_iload_n hx hb dX8_seen_2 rfl (lv_at hl 3 rfl) ?_
      refine lv_bipush (v := (-9)) hx hb dX8_seen_3 (by decide) ?_
      refine lv_icmp_eq (tgt := 33) hx hb dX8_seen_5 (by decide) (fun c_7 => ?_) (fun c_7 => absurd hk9 c_7)
      refine lv_iload_n hx hb dX8_seen_33 rfl (lv_at hl 3 rfl) ?_
      refine lv_bipush (v := (-9)) hx hb dX8_seen_34 (by decide) ?_
      refine lv_icmp_ne (tgt := 46) hx hb dX8_seen_36 (by decide) (fun c_8 => absurd hk9 c_8) (fun c_8 => ?_)
      refine lv_aload_n hx hb dX8_seen_39 rfl (lv_at hl 0 rfl) ?_
      refine lv_iconst (v := 1) hx hb dX8_seen_40 (by decide) ?_
      refine lv_iload_n hx hb dX8_seen_41 rfl (lv_at hl 1 rfl) ?_
      refine m_ci (m_runV (As := [.int 1, .int (nI n)]) (rest := []) ⟨hx, hb, hml, hown, htu⟩ (m_halts l G hDD o F 1 (nI n) H.size) (cwV 2 htu gU_X8_halts rfl rfl rfl (by decide +kernel) ⟨show 0 + 1 ≤ 3 * fu + 4 by omega, show 8 + (3 + 11) + 0 ≤ 80 * fu + 123 by omega⟩) hP hK rfl hl.1 rfl (lv_room (Nat.le_of_ble_eq_true rfl)) dX8_seen_42) hS (fun r_9 o_10 F_11 H locs hw_12 hP hS => ?_)
      try dsimp only at hw_12
      exact m_iret (v := r_9) hx hb hr hK hP hS (by rw [show wmName tr (wmx tr mk al fu) ws n e9 = wmh ws 1 n from if_pos hw0]; exact YK.halt (YK.rf hR) (fun h => h67 ((YK.rf hR).2.2.2.1.2.2.2.symm.trans h)) (why := 1) (n := n) (by decide) rfl rfl hw_12.2) dX8_seen_45 hlocks
    · skip
      obtain ⟨q, rfl⟩ : ∃ q, k9 = q + 1 := ⟨k9 - 1, by omega⟩
      rw [sgt_s] at hl
      have hq : q < ne ws := by omega
      have hME := hR.2.2 q hq
      have hEW := hWf.2 q hq
      have h26 := hEW.2.2.2.2
      have h26n := hTm.2.2 n hn (Or.inl hk)
      refine lv_iload_n hx hb dX8_seen_2 rfl (lv_at hl 3 rfl) ?_
      refine lv_bipush (v := (-9)) hx hb dX8_seen_3 (by decide) ?_
      refine lv_icmp_eq (tgt := 33) hx hb dX8_seen_5 (by decide) (fun c_13 => absurd c_13 (nI_neg (by decide) (by omega))) (fun c_13 => ?_)
      refine lv_aload_n hx hb dX8_seen_8 rfl (lv_at hl 0 rfl) ?_
      refine m_get (v := .ref (md G 57)) hx hb htu wu_in hown hK hP 57 (by decide) (htu _ U_252) rfl rfl dX8_seen_9 ?_
      refine lv_iload_n hx hb dX8_seen_12 rfl (lv_at hl 3 rfl) ?_
      refine m_ald (j := q) (v := nI (ele ws q)) hx hb hK hP 35 57 rfl (by omega) (by decide) hME.1 dX8_seen_13 ?_
      refine lv_aload_n hx hb dX8_seen_14 rfl (lv_at hl 0 rfl) ?_
      refine m_get (v := .ref (md G 2)) hx hb htu wu_in hown hK hP 2 (by decide) (htu _ U_3) rfl rfl dX8_seen_15 ?_
      refine lv_iload_n hx hb dX8_seen_18 rfl (lv_at hl 1 rfl) ?_
      refine m_ald (j := n) (v := nI (tr 1 n)) hx hb hK hP 2 2 rfl (by omega) (by decide) ((hT.2.2 n hn).2.2.1 (Or.inl hk)).1 dX8_seen_19 ?_
      refine lv_icmp_eq (tgt := 33) hx hb dX8_seen_20 (by decide) (fun c_14 => ?_) (fun c_14 => ?_)
      · skip
        have hle : ele ws q = tr 1 n := (nI_eq (by omega) (by omega)).mp c_14
        have hw1 : wmk ws (tr 1 n) 120 e9 = q + 1 := by rw [← hp2, wmk_q, if_pos hle]
        obtain ⟨r9, hr9⟩ : ∃ r9, ere ws q = r9 := ⟨_, rfl⟩
        have hr1 : r9 < 1000 := Nat.lt_of_not_le (fun h => by have := (hEW.2.2.2.1 (by omega)).1; omega)
        refine lv_iload_n hx hb dX8_seen_33 rfl (lv_at hl 3 rfl) ?_
        refine lv_bipush (v := (-9)) hx hb dX8_seen_34 (by decide) ?_
        refine lv_icmp_ne (tgt := 46) hx hb dX8_seen_36 (by decide) (fun c_15 => ?_) (fun c_15 => absurd c_15 (nI_neg (by decide) (by omega)))
        refine lv_aload_n hx hb dX8_seen_46 rfl (lv_at hl 0 rfl) ?_
        refine m_get (v := .ref (md G 59)) hx hb htu wu_in hown hK hP 59 (by decide) (htu _ U_254) rfl rfl dX8_seen_47 ?_
        refine lv_iload_n hx hb dX8_seen_50 rfl (lv_at hl 3 rfl) ?_
        refine m_ald (j := q) (v := sgt r9) hx hb hK hP 37 59 rfl (by omega) (by decide) (hME.2.2.1.trans (congrArg sgt hr9)) dX8_seen_51 ?_
        refine lv_bipush (v := (-9)) hx hb dX8_seen_52 (by decide) ?_
        refine lv_icmp_ne (tgt := 66) hx hb dX8_seen_54 (by decide) (fun c_16 => ?_) (fun c_16 => ?_)
        · skip
          have hr0 : r9 ≠ 0 := fun z => c_16 ((sgt_9 hr1).mpr z)
          obtain ⟨m9, rfl⟩ : ∃ m9, r9 = m9 + 1 := ⟨r9 - 1, by omega⟩
          obtain ⟨x1_, x2_, x3_⟩ := hEW.2.2.2.1 (by omega)
          rw [hr9, Nat.add_sub_cancel] at x1_ x2_ x3_
          have x5_ : 0 < prts (tr 0 m9) (tr 2 m9) := by rw [x2_]; show 0 < 2; decide
          have x6_ : tr 10 m9 < N ∧ dp m9 + 1 ≤ dp (tr 10 m9) := (hTm.1 _ x1_).2.2 0 x5_
          have tm0 : F 4 (6 * m9) = nI (tr 10 m9) := ((hT.2.2 m9 x1_).2.2.2.2.2.2.1 0 x5_).1
          have x7_ := eln_s hWf (q := q) hq
          have x8_ := hEW.2.1
          refine lv_aload_n hx hb dX8_seen_66 rfl (lv_at hl 0 rfl) ?_
          refine lv_aload_n hx hb dX8_seen_67 rfl (lv_at hl 0 rfl) ?_
          refine m_get (v := .ref (md G 4)) hx hb htu wu_in hown hK hP 4 (by decide) (htu _ U_6) rfl rfl dX8_seen_68 ?_
          refine lv_bipush (v := 6) hx hb dX8_seen_71 (by decide) ?_
          refine lv_aload_n hx hb dX8_seen_73 rfl (lv_at hl 0 rfl) ?_
          refine m_get (v := .ref (md G 59)) hx hb htu wu_in hown hK hP 59 (by decide) (htu _ U_254) rfl rfl dX8_seen_74 ?_
          refine lv_iload_n hx hb dX8_seen_77 rfl (lv_at hl 3 rfl) ?_
          refine m_ald (j := q) (v := nI m9) hx hb hK hP 37 59 rfl (by omega) (by decide) (hME.2.2.1.trans (by rw [hr9]; exact sgt_s)) dX8_seen_78 ?_
          refine lv_imul hx hb dX8_seen_79 ?_
          refine m_top (y := nI (6 * m9)) (pk_mul 6 m9) ?_
          refine m_ald (j := 6 * m9) (v := nI (tr 10 m9)) hx hb hK hP 4 4 rfl (by omega) (by decide) tm0 dX8_seen_80 ?_
          rw [show nI q = sgt (q + 1) from sgt_s.symm] at hl
          refine lv_iload_n hx hb dX8_seen_81 rfl (lv_at hl 3 rfl) ?_
          have R_17n0 : tr 10 m9 < N := x6_.1
          have R_17e0 : (q + 1) ≤ ne ws := (by omega)
          have R_17l0 : eln ws ((q + 1)) ≤ dp (tr 10 m9) := (by omega)
          have R_17b0 : bgn ws ≤ al := by omega
          refine m_ci (m_runV (As := [.int (nI (tr 10 m9)), .int (sgt (q + 1))]) (rest := []) ⟨hx, hb, hml, hown, htu⟩ (ih l G hDD o F tr N dp mk al vs φ ws (tr 10 m9) ((q + 1)) ((hT.keep (u := (o, F)) (fun k hk => (YK.rf hR).2.2.2.2.1 k (LW7 hk)))) ((fun q hq => ((congrFun ((YK.rf hR).2.2.2.2.1 2 (by decide)).2 _).trans (hmk q hq)))) hTm ((YK.rf hR).1) hWf h0 ((fun h => h67 ((YK.rf hR).2.2.2.1.2.2.2.symm.trans h))) (⟨by omega, by omega, by omega, by omega⟩) R_17n0 R_17e0 R_17l0 (((YK.rf hR).2.2.2.1.2.1.trans hd)) ((by omega)) H.size) (cwV 2 htu gU_X8_does rfl rfl rfl (by decide +kernel) ⟨show (3 * fu + 3) + 1 ≤ 3 * fu + 4 by omega, show 8 + (4 + 11) + (80 * fu + 100) ≤ 80 * fu + 123 by omega⟩) hP hK rfl hl.1 rfl (lv_room (Nat.le_of_ble_eq_true rfl)) dX8_seen_82) hS (fun r_18 o_19 F_20 H locs hw_21 hP hS => ?_)
          try dsimp only at hw_21
          exact m_iret (v := r_18) hx hb hr hK hP hS (by rw [show wmName tr (wmx tr mk al fu) ws n e9 = (wmx tr mk al fu) ws (tr 10 m9) (q + 1) from by (unfold wmName; rw [hw1, if_neg (Nat.succ_ne_zero q), Nat.add_sub_cancel, hr9, if_neg (Nat.succ_ne_zero m9), Nat.add_sub_cancel])]; exact YQ.tail (YK.rf hR) hw_21 (Xt.rf (s := ws)).1 (by decide)) dX8_seen_85 hlocks
        · skip
          have hr0 : ere ws q = 0 := hr9.trans ((sgt_9 hr1).mp c_16)
          refine lv_aload_n hx hb dX8_seen_57 rfl (lv_at hl 0 rfl) ?_
          refine m_get (v := .ref (md G 58)) hx hb htu wu_in hown hK hP 58 (by decide) (htu _ U_253) rfl rfl dX8_seen_58 ?_
          refine lv_iload_n hx hb dX8_seen_61 rfl (lv_at hl 3 rfl) ?_
          refine m_ald (j := q) (v := nI (φ (eva ws q))) hx hb hK hP 36 58 rfl (by omega) (by decide) (hME.2.1 hr0) dX8_seen_62 ?_
          refine lv_goto (tgt := 85) hx hb dX8_seen_63 (by decide) ?_
          exact m_iret (v := nI (φ (eva ws q))) hx hb hr hK hP hS (by rw [show wmName tr (wmx tr mk al fu) ws n e9 = (ws, eva ws q) from by (unfold wmName; rw [hw1, if_neg (Nat.succ_ne_zero q), Nat.add_sub_cancel, if_pos hr0])]; exact YQ.was (YK.rf hR) h0 (Nat.le_refl _) rfl) dX8_seen_85 hlocks
      · skip
        have hle : ¬ ele ws q = tr 1 n := fun z => c_14 (by rw [z])
        refine lv_aload_n hx hb dX8_seen_23 rfl (lv_at hl 0 rfl) ?_
        refine m_get (v := .ref (md G 60)) hx hb htu wu_in hown hK hP 60 (by decide) (htu _ U_255) rfl rfl dX8_seen_24 ?_
        refine lv_iload_n hx hb dX8_seen_27 rfl (lv_at hl 3 rfl) ?_
        refine m_ald (j := q) (v := sgt (enx ws q)) hx hb hK hP 38 60 rfl (by omega) (by decide) hME.2.2.2 dX8_seen_28 ?_
        refine lv_istore_n (lv' := [(3, .int (sgt (enx ws q))), (0, .ref (mh G)), (1, .int (nI n)), (2, .int (sgt e9))]) hx hb dX8_seen_29 rfl hl (by decide) rfl (fun ls hl => ?_)
        refine lv_goto (tgt := 2) hx hb dX8_seen_30 (by decide) ?_
        exact ih9 _ _ _ _ _ ⟨(enx ws q), ls, (Nat.le_trans hEW.1 (by omega)), (by have := eln_s hWf (q := q) hq; omega), (by rw [← hp2, wmk_q, if_neg hle]), rfl, rfl, hP, hS, lv_sub hl [1, 2, 3, 0] rfl, rfl⟩

set_option maxHeartbeats 4000000 in
set_option maxRecDepth 100000 in
/-- doing -/
theorem xm_doing (l : Launch) (G : mG) (hDD : mDD G) (o : Nat → Int32) (F : Nat → Nat → Int32) (fu : Nat) (tr : aM) (N : Nat) (dp : Nat → Nat) (mk : Nat → Int32) (al : Nat) (vs : Nat) (φ : Nat → Nat) (ws : wmS) (n : Nat) (e9 : Nat) (ih : xmDoesAt fu) (ihs : xmSeenAt fu) (hT : TRm tr N o F) (hmk : ∀ n, n < N → F 2 n = mk n) (hTm : wmT tr N dp) (hR : MR9 tr al vs o F ws φ) (hWf : wmW tr N dp ws) (h0 : hlt ws = 0) (h67 : o 67 ≠ 0) (hz : vs + 1 ≤ bgn ws ∧ ne ws + 1 ≤ bgn ws ∧ bgn ws ≤ al ∧ al ≤ 300) (hn : n < N) (he : e9 ≤ ne ws) (hel : eln ws e9 ≤ dp n) (hd : o 64 = nI (60 - fu)) (hfu : fu ≤ 60) (sz : Nat) : Met l yX8_doing (wU yX8_doing cX8_doing 7 (some .int)) { frames := 3 * fu + 5, cells := 0, slots := 0, locals := 80 * fu + 146 } (mPc G o F sz [.ref (mh G), .int (nI n), .int (sgt e9)]) (mQi G sz (fun r u => YQ tr al vs 1 φ o F ws (wmd tr mk (wmx tr mk al fu) ws n e9) r u)) 0 0 (mA G sz) := by
  refine Met.ofW (cc := cX8_doing) (maxL := 7) (ret := (some .int)) (by decide) rfl ?_
  intro p e s m args below meth c s₁ B hml hv
  obtain ⟨rfl, hsz, hP, hK⟩ := hv
  have hx := B.exec
  have hb := B.bytes
  have hr := B.returns
  have htu : ∀ w ∈ WU, w.before _ s = true := fun w h => atoms_spec (ws := (wU yX8_doing cX8_doing 7 (some .int))) B.pre w (List.mem_cons_of_mem _ h)
  have hown : s.vm.findClass RX8 = some m.cls := findClass_of_methodNamed B.named
  have hlocks := B.notSynchronized
  subst hsz
  have hS : va_S (mA G s.heap.size) s.heap s.heap [] := va_S.rf
  have hl := lv_entry ([.ref (mh G), .int (nI n), .int (sgt e9)]) (n := 7) (Nat.le_of_ble_eq_true rfl)
  rw [lg_entry_eq]
  generalize (lg_sl ([.ref (mh G), .int (nI n), .int (sgt e9)]) ++ List.replicate (7 - (lg_sl ([.ref (mh G), .int (nI n), .int (sgt e9)])).length) Slot.unset).toArray = ls at hl ⊢
  have hl : lv_has ls 7 [(0, .ref (mh G)), (1, .int (nI n)), (2, .int (sgt e9))] := hl
  obtain ⟨H, hHe⟩ : ∃ H : Heap, H = s.heap := ⟨_, rfl⟩
  rw [← hHe] at hP
  have hS : va_S (mA G s.heap.size) s.heap H [] := by rw [hHe]; exact va_S.rf
  refine W.heq hHe ?_
  have hN := hT.2.1
  obtain ⟨a1_, a2_, a3_, a4_⟩ := hR.1
  obtain ⟨hz1, hz2, hz3, hz4⟩ := id hz
  have h6 : ∀ m, m < N → tr 2 m ≤ 6 := fun m h => (hT.2.2 m h).2.2.2.2.1
  have tn := hT.2.2 n hn
  have tn3 := tn.2.2.2.2.1
  have tnk := tn.2.1
  refine lv_aload_n hx hb dX8_doing_0 rfl (lv_at hl 0 rfl) ?_
  refine m_get (v := .ref (md G 4)) hx hb htu wu_in hown hK hP 4 (by decide) (htu _ U_6) rfl rfl dX8_doing_1 ?_
  refine lv_bipush (v := 6) hx hb dX8_doing_4 (by decide) ?_
  refine lv_iload_n hx hb dX8_doing_6 rfl (lv_at hl 1 rfl) ?_
  refine lv_imul hx hb dX8_doing_7 ?_
  refine m_top (y := nI (6 * n)) (pk_mul 6 n) ?_
  refine m_ald (j := 6 * n) (v := F 4 (6 * n)) hx hb hK hP 4 4 rfl (by omega) (by decide) rfl dX8_doing_8 ?_
  refine lv_istore_n (lv' := [(3, .int (F 4 (6 * n))), (0, .ref (mh G)), (1, .int (nI n)), (2, .int (sgt e9))]) hx hb dX8_doing_9 rfl hl (by decide) rfl (fun ls hl => ?_)
  refine lv_aload_n hx hb dX8_doing_10 rfl (lv_at hl 1 rfl) ?_
  refine m_get (v := .ref (md G 4)) hx hb htu wu_in hown hK hP 4 (by decide) (htu _ U_6) rfl rfl dX8_doing_11 ?_
  refine lv_bipush (v := 6) hx hb dX8_doing_14 (by decide) ?_
  refine lv_iload_n hx hb dX8_doing_16 rfl (lv_at hl 2 rfl) ?_
  refine lv_imul hx hb dX8_doing_17 ?_
  refine m_top (y := nI (6 * n)) (pk_mul 6 n) ?_
  refine lv_iconst (v := 1) hx hb dX8_doing_18 (by decide) ?_
  refine lv_iadd hx hb dX8_doing_19 ?_
  refine m_top (y := nI (6 * n + 1)) (nI_add (6 * n) 1) ?_
  refine m_ald (j := 6 * n + 1) (v := F 4 (6 * n + 1)) hx hb hK hP 4 4 rfl (by omega) (by decide) rfl dX8_doing_20 ?_
  refine lv_istore (lv' := [(4, .int (F 4 (6 * n + 1))), (3, .int (F 4 (6 * n))), (0, .ref (mh G)), (1, .int (nI n)), (2, .int (sgt e9))]) hx hb dX8_doing_21 hl (by decide) rfl (fun ls hl => ?_)
  refine lv_aload_n hx hb dX8_doing_23 rfl (lv_at hl 2 rfl) ?_
  refine m_get (v := .ref (md G 1)) hx hb htu wu_in hown hK hP 1 (by decide) (htu _ U_2) rfl rfl dX8_doing_24 ?_
  refine lv_iload_n hx hb dX8_doing_27 rfl (lv_at hl 3 rfl) ?_
  refine m_ald (j := n) (v := nI (tr 0 n)) hx hb hK hP 1 1 rfl (by omega) (by decide) tn.1 dX8_doing_28 ?_
  rcases Decidable.em (nI (tr 0 n) = 0) with c_1 | c_1
  · skip
    refine lv_tableIn (tgt := 84) hx hb dX8_doing_29 (by rw [c_1]; decide) (by rw [c_1]; decide) (by rw [c_1]; rfl) (by decide) ?_
    have hk : tr 0 n = 0 := (nI_eq (b := 0) (by omega) (by omega)).mp c_1
    refine lv_aload_n hx hb dX8_doing_84 rfl (lv_at hl 2 rfl) ?_
    refine lv_iconst (v := 0) hx hb dX8_doing_85 (by decide) ?_
    refine lv_aload_n hx hb dX8_doing_86 rfl (lv_at hl 2 rfl) ?_
    refine m_get (v := .ref (md G 2)) hx hb htu wu_in hown hK hP 2 (by decide) (htu _ U_3) rfl rfl dX8_doing_87 ?_
    refine lv_iload_n hx hb dX8_doing_90 rfl (lv_at hl 3 rfl) ?_
    refine m_ald (j := n) (v := F 2 n) hx hb hK hP 2 2 rfl (by omega) (by decide) rfl dX8_doing_91 ?_
    refine lv_bipush (v := (-9)) hx hb dX8_doing_92 (by decide) ?_
    refine m_ci (m_runV (As := [.int 0, .int (F 2 n), .int ((-9))]) (rest := []) ⟨hx, hb, hml, hown, htu⟩ (m_made l G hDD o F vs 0 (F 2 n) ((-9)) ((YK.rf hR).1.1.1) ((by omega)) H.size) (cwV 3 htu gU_X8_made rfl rfl rfl (by decide +kernel) ⟨show 0 + 1 ≤ 3 * fu + 5 by omega, show 8 + (4 + 11) + 0 ≤ 80 * fu + 146 by omega⟩) hP hK rfl hl.1 rfl (lv_room (Nat.le_of_ble_eq_true rfl)) dX8_doing_94) hS (fun r_2 o_3 F_4 H locs hw_5 hP hS => ?_)
    try dsimp only at hw_5
    have m_6K := YK.made (so := 0) (n := 0) (e := 0) (xv := mk n) (YK.rf hR) hWf h6 (Xt.rf (s := ws)).1 hw_5.2 rfl (fun _ => hmk n hn) (fun z => absurd z (by decide)) (by decide)
    exact m_iret (v := r_2) hx hb hr hK hP hS (by rw [wmd_0 hk]; exact YQ.val m_6K h0 (by decide) hw_5.1) dX8_doing_97 hlocks
  rcases Decidable.em (nI (tr 0 n) = 1) with c_7 | c_7
  · skip
    refine lv_tableIn (tgt := 98) hx hb dX8_doing_29 (by rw [c_7]; decide) (by rw [c_7]; decide) (by rw [c_7]; rfl) (by decide) ?_
    have hk : tr 0 n = 1 := (nI_eq (b := 1) (by omega) (by omega)).mp c_7
    refine lv_aload_n hx hb dX8_doing_98 rfl (lv_at hl 2 rfl) ?_
    refine lv_iconst (v := 1) hx hb dX8_doing_99 (by decide) ?_
    refine lv_aload_n hx hb dX8_doing_100 rfl (lv_at hl 2 rfl) ?_
    refine m_get (v := .ref (md G 2)) hx hb htu wu_in hown hK hP 2 (by decide) (htu _ U_3) rfl rfl dX8_doing_101 ?_
    refine lv_iload_n hx hb dX8_doing_104 rfl (lv_at hl 3 rfl) ?_
    refine m_ald (j := n) (v := F 2 n) hx hb hK hP 2 2 rfl (by omega) (by decide) rfl dX8_doing_105 ?_
    refine lv_bipush (v := (-9)) hx hb dX8_doing_106 (by decide) ?_
    refine m_ci (m_runV (As := [.int 1, .int (F 2 n), .int ((-9))]) (rest := []) ⟨hx, hb, hml, hown, htu⟩ (m_made l G hDD o F vs 1 (F 2 n) ((-9)) ((YK.rf hR).1.1.1) ((by omega)) H.size) (cwV 3 htu gU_X8_made rfl rfl rfl (by decide +kernel) ⟨show 0 + 1 ≤ 3 * fu + 5 by omega, show 8 + (4 + 11) + 0 ≤ 80 * fu + 146 by omega⟩) hP hK rfl hl.1 rfl (lv_room (Nat.le_of_ble_eq_true rfl)) dX8_doing_108) hS (fun r_8 o_9 F_10 H locs hw_11 hP hS => ?_)
    try dsimp only at hw_11
    have m_12K := YK.made (so := 1) (n := 0) (e := 0) (xv := mk n) (YK.rf hR) hWf h6 (Xt.rf (s := ws)).1 hw_11.2 rfl (fun _ => hmk n hn) (fun z => absurd z (by decide)) (by decide)
    exact m_iret (v := r_8) hx hb hr hK hP hS (by rw [wmd_1 hk]; exact YQ.val m_12K h0 (by decide) hw_11.1) dX8_doing_111 hlocks
  rcases Decidable.em (nI (tr 0 n) = 2) with c_13 | c_13
  · skip
    refine lv_tableIn (tgt := 112) hx hb dX8_doing_29 (by rw [c_13]; decide) (by rw [c_13]; decide) (by rw [c_13]; rfl) (by decide) ?_
    have hk : tr 0 n = 2 := (nI_eq (b := 2) (by omega) (by omega)).mp c_13
    refine lv_aload_n hx hb dX8_doing_112 rfl (lv_at hl 2 rfl) ?_
    refine lv_iload_n hx hb dX8_doing_113 rfl (lv_at hl 3 rfl) ?_
    refine lv_iload_n hx hb dX8_doing_114 rfl (lv_at hl 4 rfl) ?_
    refine m_ci (m_runV (As := [.int (nI n), .int (sgt e9)]) (rest := []) ⟨hx, hb, hml, hown, htu⟩ (ihs l G hDD o F tr N dp mk al vs φ ws n e9 hT hmk hTm hR hWf h0 h67 (⟨by omega, by omega, by omega, by omega⟩) hn he hel hd hfu hk H.size) (cwV 2 htu gU_X8_seen rfl rfl rfl (by decide +kernel) ⟨show (3 * fu + 4) + 1 ≤ 3 * fu + 5 by omega, show 8 + (4 + 11) + (80 * fu + 123) ≤ 80 * fu + 146 by omega⟩) hP hK rfl hl.1 rfl (lv_room (Nat.le_of_ble_eq_true rfl)) dX8_doing_115) hS (fun r_14 o_15 F_16 H locs hw_17 hP hS => ?_)
    try dsimp only at hw_17
    exact m_iret (v := r_14) hx hb hr hK hP hS (by rw [wmd_2 hk]; exact YQ.mono hw_17 (by decide)) dX8_doing_118 hlocks
  rcases Decidable.em (nI (tr 0 n) = 3) with c_18 | c_18
  · skip
    refine lv_tableIn (tgt := 119) hx hb dX8_doing_29 (by rw [c_18]; decide) (by rw [c_18]; decide) (by rw [c_18]; rfl) (by decide) ?_
    have hk : tr 0 n = 3 := (nI_eq (b := 3) (by omega) (by omega)).mp c_18
    have tp := tn.2.2.2.2.2.2.1
    rw [hk] at tp
    have hp9 : prts (tr 0 n) (tr 2 n) = 1 := by rw [hk]; rfl
    have hch0 : tr 10 n < N ∧ dp n + 1 ≤ dp (tr 10 n) := (hTm.1 n hn).2.2 0 (by rw [hp9]; decide)
    obtain ⟨ea_, p0_, -⟩ := tp 0 (show 0 < 1 by decide)
    rw [show F 4 (6 * n) = nI (tr 10 n) from ea_] at hl
    refine lv_aload_n hx hb dX8_doing_119 rfl (lv_at hl 2 rfl) ?_
    refine lv_iconst (v := 2) hx hb dX8_doing_120 (by decide) ?_
    refine lv_iload_n hx hb dX8_doing_121 rfl (lv_at hl 3 rfl) ?_
    refine lv_iload_n hx hb dX8_doing_122 rfl (lv_at hl 4 rfl) ?_
    refine m_ci (m_runV (As := [.int 2, .int (nI n), .int (sgt e9)]) (rest := []) ⟨hx, hb, hml, hown, htu⟩ (m_made l G hDD o F vs 2 (nI n) (sgt e9) ((YK.rf hR).1.1.1) ((by omega)) H.size) (cwV 3 htu gU_X8_made rfl rfl rfl (by decide +kernel) ⟨show 0 + 1 ≤ 3 * fu + 5 by omega, show 8 + (4 + 11) + 0 ≤ 80 * fu + 146 by omega⟩) hP hK rfl hl.1 rfl (lv_room (Nat.le_of_ble_eq_true rfl)) dX8_doing_123) hS (fun r_19 o_20 F_21 H locs hw_22 hP hS => ?_)
    try dsimp only at hw_22
    have m_23K := YK.made (so := 2) (n := n) (e := e9) (xv := 0) (YK.rf hR) hWf h6 (Xt.rf (s := ws)).1 hw_22.2 rfl (fun z => absurd z (by decide)) (fun _ => ⟨rfl, rfl⟩) (by decide)
    exact m_iret (v := r_19) hx hb hr hK hP hS (by rw [wmd_3 hk]; exact YQ.val m_23K h0 (by decide) hw_22.1) dX8_doing_126 hlocks
  rcases Decidable.em (nI (tr 0 n) = 4) with c_24 | c_24
  · skip
    refine lv_tableIn (tgt := 127) hx hb dX8_doing_29 (by rw [c_24]; decide) (by rw [c_24]; decide) (by rw [c_24]; rfl) (by decide) ?_
    have hk : tr 0 n = 4 := (nI_eq (b := 4) (by omega) (by omega)).mp c_24
    have tp := tn.2.2.2.2.2.2.1
    rw [hk] at tp
    have hp9 : prts (tr 0 n) (tr 2 n) = 2 := by rw [hk]; rfl
    have hch0 : tr 10 n < N ∧ dp n + 1 ≤ dp (tr 10 n) := (hTm.1 n hn).2.2 0 (by rw [hp9]; decide)
    have hch1 : tr 11 n < N ∧ dp n + 1 ≤ dp (tr 11 n) := (hTm.1 n hn).2.2 1 (by rw [hp9]; decide)
    obtain ⟨ea_, p0_, -⟩ := tp 0 (show 0 < 2 by decide)
    rw [show F 4 (6 * n) = nI (tr 10 n) from ea_] at hl
    obtain ⟨eb_, p1_, -⟩ := tp 1 (show 1 < 2 by decide)
    rw [show F 4 (6 * n + 1) = nI (tr 11 n) from eb_] at hl
    refine lv_aload_n hx hb dX8_doing_127 rfl (lv_at hl 2 rfl) ?_
    refine lv_iload_n hx hb dX8_doing_128 rfl (lv_at hl 1 rfl) ?_
    refine lv_iload_n hx hb dX8_doing_129 rfl (lv_at hl 4 rfl) ?_
    have R_25n0 : tr 10 n < N := hch0.1
    have R_25e0 : e9 ≤ ne ws := (Nat.le_trans he (Xt.rf (s := ws)).2.1)
    have R_25l0 : eln ws e9 ≤ dp (tr 10 n) := (by rw [(Xt.rf (s := ws)).eln he]; have := hch0.2; omega)
    have R_25b0 : bgn ws ≤ al := by omega
    refine m_ci (m_runV (As := [.int (nI (tr 10 n)), .int (sgt e9)]) (rest := []) ⟨hx, hb, hml, hown, htu⟩ (ih l G hDD o F tr N dp mk al vs φ ws (tr 10 n) e9 ((hT.keep (u := (o, F)) (fun k hk => (YK.rf hR).2.2.2.2.1 k (LW7 hk)))) ((fun q hq => ((congrFun ((YK.rf hR).2.2.2.2.1 2 (by decide)).2 _).trans (hmk q hq)))) hTm ((YK.rf hR).1) hWf h0 ((fun h => h67 ((YK.rf hR).2.2.2.1.2.2.2.symm.trans h))) (⟨by omega, by omega, by omega, by omega⟩) R_25n0 R_25e0 R_25l0 (((YK.rf hR).2.2.2.1.2.1.trans hd)) ((by omega)) H.size) (cwV 2 htu gU_X8_does rfl rfl rfl (by decide +kernel) ⟨show (3 * fu + 3) + 1 ≤ 3 * fu + 5 by omega, show 8 + (4 + 11) + (80 * fu + 100) ≤ 80 * fu + 146 by omega⟩) hP hK rfl hl.1 rfl (lv_room (Nat.le_of_ble_eq_true rfl)) dX8_doing_130) hS (fun r_26 o_27 F_28 H locs hw_29 hP hS => ?_)
    try dsimp only at hw_29
    obtain ⟨R_25, R_25v, R_25e⟩ : ∃ a b, wmx tr mk al fu ws (tr 10 n) e9 = (a, b) := ⟨_, _, rfl⟩
    have R_25p := wmx_ok hTm mk al fu ws (tr 10 n) e9 hWf h0 R_25b0 R_25n0 R_25e0 R_25l0
    rw [R_25e] at hw_29 R_25p
    obtain ⟨R_25W, R_25X, R_25c, R_25i⟩ := R_25p
    obtain ⟨R_25c1, R_25c2, R_25c3, R_25c4⟩ := R_25c
    dsimp only at R_25W R_25X R_25c1 R_25c2 R_25c3 R_25c4 R_25i
    rcases hw_29 with R_25h | ⟨R_25z, R_25vs, R_25ph, R_25k, R_25r⟩
    · skip
      dsimp only at R_25h
      refine lv_istore (lv' := [(5, .int r_26), (4, .int (nI (tr 11 n))), (3, .int (nI (tr 10 n))), (0, .ref (mh G)), (1, .int (nI n)), (2, .int (sgt e9))]) hx hb dX8_doing_133 hl (by decide) rfl (fun ls hl => ?_)
      refine lv_aload_n hx hb dX8_doing_135 rfl (lv_at hl 3 rfl) ?_
      refine lv_iload hx hb dX8_doing_136 (lv_at hl 1 rfl) ?_
      refine lv_iload_n hx hb dX8_doing_138 rfl (lv_at hl 5 rfl) ?_
      refine m_ci (m_runV (As := [.int (nI (tr 11 n)), .int (sgt e9)]) (rest := []) ⟨hx, hb, hml, hown, htu⟩ (xm_does_h l G hDD o_27 F_28 (nI (tr 11 n)) (sgt e9) R_25h.2.1 H.size) (cwV 2 htu gU_X8_does rfl rfl rfl (by decide +kernel) ⟨show 0 + 1 ≤ 3 * fu + 5 by omega, show 8 + (4 + 11) + 0 ≤ 80 * fu + 146 by omega⟩) hP hK rfl hl.1 rfl (lv_room (Nat.le_of_ble_eq_true rfl)) dX8_doing_139) hS (fun r_30 o_31 F_32 H locs hw_33 hP hS => ?_)
      try dsimp only at hw_33
      obtain ⟨m_34r, m_34u⟩ := hw_33
      subst m_34r
      obtain ⟨h91, h92⟩ := Prod.mk.inj m_34u
      have h91 := h91.symm
      have h92 := h92.symm
      subst h91
      subst h92
      refine lv_istore (lv' := [(6, .int ((-9))), (5, .int r_26), (4, .int (nI (tr 11 n))), (3, .int (nI (tr 10 n))), (0, .ref (mh G)), (1, .int (nI n)), (2, .int (sgt e9))]) hx hb dX8_doing_142 hl (by decide) rfl (fun ls hl => ?_)
      refine lv_aload_n hx hb dX8_doing_144 rfl (lv_at hl 4 rfl) ?_
      refine m_get (v := .int (o_27 67)) hx hb htu wu_in hown hK hP 67 (by decide) (htu _ U_221) rfl rfl dX8_doing_145 ?_
      refine lv_if_ne (tgt := 154) hx hb dX8_doing_148 (by decide) (fun c_35 => absurd R_25h.2.1 c_35) (fun c_35 => ?_)
      refine lv_bipush (v := (-9)) hx hb dX8_doing_151 (by decide) ?_
      exact m_iret (v := (-9)) hx hb hr hK hP hS (by rw [wmd_4 hk, wmApply_1 R_25e R_25h.1]; exact YQ.stop (YK.rf hR) R_25h) dX8_doing_153 hlocks
    · skip
      dsimp only at R_25z R_25k R_25r
      subst R_25r
      have R_25K := YK.trans (YK.rf hR) R_25k (Xt.rf (s := ws)).1
      have R_25XX := (Xt.rf (s := ws)).tr R_25X
      have R_25vi := R_25i R_25z
      obtain ⟨R_25y1, R_25y2⟩ := R_25K.2.1
      obtain ⟨R_25g, R_25V⟩ := R_25K.1.2.1 R_25v R_25vi
      refine lv_istore (lv' := [(5, .int (nI (R_25ph R_25v))), (4, .int (nI (tr 11 n))), (3, .int (nI (tr 10 n))), (0, .ref (mh G)), (1, .int (nI n)), (2, .int (sgt e9))]) hx hb dX8_doing_133 hl (by decide) rfl (fun ls hl => ?_)
      refine lv_aload_n hx hb dX8_doing_135 rfl (lv_at hl 3 rfl) ?_
      refine lv_iload hx hb dX8_doing_136 (lv_at hl 1 rfl) ?_
      refine lv_iload_n hx hb dX8_doing_138 rfl (lv_at hl 5 rfl) ?_
      have R_36n0 : tr 11 n < N := hch1.1
      have R_36e0 : e9 ≤ ne R_25 := (Nat.le_trans he R_25XX.2.1)
      have R_36l0 : eln R_25 e9 ≤ dp (tr 11 n) := (by rw [R_25XX.eln he]; have := hch1.2; omega)
      have R_36b0 : bgn R_25 ≤ al := by omega
      refine m_ci (m_runV (As := [.int (nI (tr 11 n)), .int (sgt e9)]) (rest := []) ⟨hx, hb, hml, hown, htu⟩ (ih l G hDD o_27 F_28 tr N dp mk al R_25vs R_25ph R_25 (tr 11 n) e9 ((hT.keep (u := (o_27, F_28)) (fun k hk => R_25K.2.2.2.2.1 k (LW7 hk)))) ((fun q hq => ((congrFun (R_25K.2.2.2.2.1 2 (by decide)).2 _).trans (hmk q hq)))) hTm R_25K.1 R_25W R_25z ((fun h => h67 (R_25K.2.2.2.1.2.2.2.symm.trans h))) (⟨by omega, by omega, by omega, by omega⟩) R_36n0 R_36e0 R_36l0 ((R_25K.2.2.2.1.2.1.trans hd)) ((by omega)) H.size) (cwV 2 htu gU_X8_does rfl rfl rfl (by decide +kernel) ⟨show (3 * fu + 3) + 1 ≤ 3 * fu + 5 by omega, show 8 + (4 + 11) + (80 * fu + 100) ≤ 80 * fu + 146 by omega⟩) hP hK rfl hl.1 rfl (lv_room (Nat.le_of_ble_eq_true rfl)) dX8_doing_139) hS (fun r_37 o_38 F_39 H locs hw_40 hP hS => ?_)
      try dsimp only at hw_40
      obtain ⟨R_36, R_36v, R_36e⟩ : ∃ a b, wmx tr mk al fu R_25 (tr 11 n) e9 = (a, b) := ⟨_, _, rfl⟩
      have R_36p := wmx_ok hTm mk al fu R_25 (tr 11 n) e9 R_25W R_25z R_36b0 R_36n0 R_36e0 R_36l0
      rw [R_36e] at hw_40 R_36p
      obtain ⟨R_36W, R_36X, R_36c, R_36i⟩ := R_36p
      obtain ⟨R_36c1, R_36c2, R_36c3, R_36c4⟩ := R_36c
      dsimp only at R_36W R_36X R_36c1 R_36c2 R_36c3 R_36c4 R_36i
      rcases hw_40 with R_36h | ⟨R_36z, R_36vs, R_36ph, R_36k, R_36r⟩
      · skip
        dsimp only at R_36h
        refine lv_istore (lv' := [(6, .int r_37), (5, .int (nI (R_25ph R_25v))), (4, .int (nI (tr 11 n))), (3, .int (nI (tr 10 n))), (0, .ref (mh G)), (1, .int (nI n)), (2, .int (sgt e9))]) hx hb dX8_doing_142 hl (by decide) rfl (fun ls hl => ?_)
        refine lv_aload_n hx hb dX8_doing_144 rfl (lv_at hl 4 rfl) ?_
        refine m_get (v := .int (o_38 67)) hx hb htu wu_in hown hK hP 67 (by decide) (htu _ U_221) rfl rfl dX8_doing_145 ?_
        refine lv_if_ne (tgt := 154) hx hb dX8_doing_148 (by decide) (fun c_41 => absurd R_36h.2.1 c_41) (fun c_41 => ?_)
        refine lv_bipush (v := (-9)) hx hb dX8_doing_151 (by decide) ?_
        exact m_iret (v := (-9)) hx hb hr hK hP hS (by rw [wmd_4 hk, wmApply_2 R_25e R_25z R_36e R_36h.1]; exact YQ.stop R_25K R_36h) dX8_doing_153 hlocks
      · skip
        dsimp only at R_36z R_36k R_36r
        subst R_36r
        have R_36K := YK.trans R_25K R_36k R_25XX.1
        have R_36XX := R_25XX.tr R_36X
        have R_36vi := R_36i R_36z
        obtain ⟨R_36y1, R_36y2⟩ := R_36K.2.1
        obtain ⟨R_36g, R_36V⟩ := R_36K.1.2.1 R_36v R_36vi
        refine lv_istore (lv' := [(6, .int (nI (R_36ph R_36v))), (5, .int (nI (R_25ph R_25v))), (4, .int (nI (tr 11 n))), (3, .int (nI (tr 10 n))), (0, .ref (mh G)), (1, .int (nI n)), (2, .int (sgt e9))]) hx hb dX8_doing_142 hl (by decide) rfl (fun ls hl => ?_)
        refine lv_aload_n hx hb dX8_doing_144 rfl (lv_at hl 4 rfl) ?_
        refine m_get (v := .int (o_38 67)) hx hb htu wu_in hown hK hP 67 (by decide) (htu _ U_221) rfl rfl dX8_doing_145 ?_
        refine lv_if_ne (tgt := 154) hx hb dX8_doing_148 (by decide) (fun c_42 => ?_) (fun c_42 => absurd c_42 (fun h => h67 (R_36K.2.2.2.1.2.2.2.symm.trans h)))
        have hA : R_25v < wnv R_36 := Nat.lt_of_lt_of_le R_25vi R_36X.1
        have eA : R_36ph R_25v = R_25ph R_25v := R_36k.2.2.1.1 _ R_25vi
        rw [← eA] at hl
        obtain ⟨hAg, hAV⟩ := R_36K.1.2.1 R_25v hA
        refine lv_aload_n hx hb dX8_doing_154 rfl (lv_at hl 4 rfl) ?_
        refine m_get (v := .ref (md G 52)) hx hb htu wu_in hown hK hP 52 (by decide) (htu _ U_237) rfl rfl dX8_doing_155 ?_
        refine lv_iload hx hb dX8_doing_158 (lv_at hl 1 rfl) ?_
        refine m_ald (j := R_36ph R_25v) (v := nI (vso R_36 R_25v)) hx hb hK hP 31 52 rfl (by omega) (by decide) hAV.1 dX8_doing_160 ?_
        refine lv_iconst (v := 2) hx hb dX8_doing_161 (by decide) ?_
        refine lv_icmp_eq (tgt := 172) hx hb dX8_doing_162 (by decide) (fun c_43 => ?_) (fun c_43 => ?_)
        · skip
          have hv2 : vso R_36 R_25v = 2 := (nI_eq (b := 2) (by have := (R_36W.1 _ hA).1; omega) (by omega)).mp c_43
          obtain ⟨x1_, x2_, x3_, x4_⟩ := (R_36W.1 _ hA).2.1 hv2
          obtain ⟨m9, hm9⟩ : ∃ m9, vno R_36 R_25v = m9 := ⟨_, rfl⟩
          rw [hm9] at x1_ x2_ x4_
          have x5_ : 0 < prts (tr 0 m9) (tr 2 m9) := by rw [x2_]; show 0 < 1; decide
          have x6_ : tr 10 m9 < N ∧ dp m9 + 1 ≤ dp (tr 10 m9) := (hTm.1 _ x1_).2.2 0 x5_
          have tm0 : F 4 (6 * m9) = nI (tr 10 m9) := ((hT.2.2 m9 x1_).2.2.2.2.2.2.1 0 x5_).1
          have tm1 : F 2 m9 = nI (tr 1 m9) := ((hT.2.2 m9 x1_).2.2.1 (Or.inr (Or.inl x2_))).1
          obtain ⟨hV1, hV2⟩ := hAV.2.2.1 hv2
          rw [hm9] at hV1
          refine lv_aload_n hx hb dX8_doing_172 rfl (lv_at hl 4 rfl) ?_
          refine lv_aload_n hx hb dX8_doing_173 rfl (lv_at hl 4 rfl) ?_
          refine m_get (v := .ref (md G 4)) hx hb htu wu_in hown hK hP 4 (by decide) (htu _ U_6) rfl rfl dX8_doing_174 ?_
          refine lv_bipush (v := 6) hx hb dX8_doing_177 (by decide) ?_
          refine lv_aload_n hx hb dX8_doing_179 rfl (lv_at hl 4 rfl) ?_
          refine m_get (v := .ref (md G 53)) hx hb htu wu_in hown hK hP 53 (by decide) (htu _ U_238) rfl rfl dX8_doing_180 ?_
          refine lv_iload hx hb dX8_doing_183 (lv_at hl 1 rfl) ?_
          refine m_ald (j := R_36ph R_25v) (v := nI m9) hx hb hK hP 32 53 rfl (by omega) (by decide) hV1 dX8_doing_185 ?_
          refine lv_imul hx hb dX8_doing_186 ?_
          refine m_top (y := nI (6 * m9)) (pk_mul 6 m9) ?_
          refine m_ald (j := 6 * m9) (v := nI (tr 10 m9)) hx hb hK hP 4 4 rfl (by omega) (by decide) ((congrFun (R_36K.2.2.2.2.1 4 (by decide)).2 _).trans tm0) dX8_doing_187 ?_
          refine lv_aload_n hx hb dX8_doing_188 rfl (lv_at hl 4 rfl) ?_
          refine lv_aload_n hx hb dX8_doing_189 rfl (lv_at hl 4 rfl) ?_
          refine m_get (v := .ref (md G 2)) hx hb htu wu_in hown hK hP 2 (by decide) (htu _ U_3) rfl rfl dX8_doing_190 ?_
          refine lv_aload_n hx hb dX8_doing_193 rfl (lv_at hl 4 rfl) ?_
          refine m_get (v := .ref (md G 53)) hx hb htu wu_in hown hK hP 53 (by decide) (htu _ U_238) rfl rfl dX8_doing_194 ?_
          refine lv_iload hx hb dX8_doing_197 (lv_at hl 1 rfl) ?_
          refine m_ald (j := R_36ph R_25v) (v := nI m9) hx hb hK hP 32 53 rfl (by omega) (by decide) hV1 dX8_doing_199 ?_
          refine m_ald (j := m9) (v := nI (tr 1 m9)) hx hb hK hP 2 2 rfl (by omega) (by decide) ((congrFun (R_36K.2.2.2.2.1 2 (by decide)).2 _).trans tm1) dX8_doing_200 ?_
          refine lv_iload hx hb dX8_doing_201 (lv_at hl 0 rfl) ?_
          refine lv_bipush (v := (-9)) hx hb dX8_doing_203 (by decide) ?_
          refine lv_aload_n hx hb dX8_doing_205 rfl (lv_at hl 4 rfl) ?_
          refine m_get (v := .ref (md G 54)) hx hb htu wu_in hown hK hP 54 (by decide) (htu _ U_239) rfl rfl dX8_doing_206 ?_
          refine lv_iload hx hb dX8_doing_209 (lv_at hl 1 rfl) ?_
          refine m_ald (j := R_36ph R_25v) (v := sgt (vse R_36 R_25v)) hx hb hK hP 33 54 rfl (by omega) (by decide) hV2 dX8_doing_211 ?_
          refine m_ci (m_runV (As := [.int (nI (tr 1 m9)), .int (nI (R_36ph R_36v)), .int ((-9)), .int (sgt (vse R_36 R_25v))]) (rest := [.int (nI (tr 10 m9)), .ref (mh G)]) ⟨hx, hb, hml, hown, htu⟩ (m_env l G hDD o_38 F_39 (ne R_36) (nI (tr 1 m9)) (nI (R_36ph R_36v)) ((-9)) (sgt (vse R_36 R_25v)) R_36K.1.1.2.1 ((by omega)) H.size) (cwV 4 htu gU_X8_env rfl rfl rfl (by decide +kernel) ⟨show 0 + 1 ≤ 3 * fu + 5 by omega, show 8 + (5 + 11) + 0 ≤ 80 * fu + 146 by omega⟩) hP hK rfl hl.1 rfl (lv_room (Nat.le_of_ble_eq_true rfl)) dX8_doing_212) hS (fun r_44 o_45 F_46 H locs hw_47 hP hS => ?_)
          try dsimp only at hw_47
          obtain ⟨m_48r, m_48u⟩ := hw_47
          obtain rfl : r_44 = sgt (ne R_36 + 1) := m_48r.trans sgt_s.symm
          have m_48K := YK.env (le := tr 1 m9) (va := R_36v) (re := 0) (nx := vse R_36 R_25v) R_36K R_36W h6 m_48u rfl (fun _ => rfl) rfl rfl
          have m_48W : wmW tr N dp (wme R_36 (tr 1 m9) R_36v 0 (vse R_36 R_25v)) := w_wme R_36W (hTm.2.2 _ x1_ (Or.inr (Or.inl x2_))) x3_ (fun _ => R_36vi) (fun z => absurd rfl z)
          have m_48z : hlt (wme R_36 (tr 1 m9) R_36v 0 (vse R_36 R_25v)) = 0 := R_36z
          have m_48n : ne (wme R_36 (tr 1 m9) R_36v 0 (vse R_36 R_25v)) = ne R_36 + 1 := rfl
          have m_48b : bgn (wme R_36 (tr 1 m9) R_36v 0 (vse R_36 R_25v)) = bgn R_36 := rfl
          have m_48v : wnv (wme R_36 (tr 1 m9) R_36v 0 (vse R_36 R_25v)) = wnv R_36 := rfl
          have m_48E : eln (wme R_36 (tr 1 m9) R_36v 0 (vse R_36 R_25v)) (ne R_36 + 1) = eln R_36 (vse R_36 R_25v) + 1 := eln_new
          have m_48XX := R_36XX.tr (x_wme (s := R_36) (le := tr 1 m9) (va := R_36v) (re := 0) (nx := vse R_36 R_25v))
          have R_49n0 : tr 10 m9 < N := x6_.1
          have R_49e0 : (ne R_36 + 1) ≤ ne ((wme R_36 (tr 1 m9) R_36v 0 (vse R_36 R_25v))) := (Nat.le_refl _)
          have R_49l0 : eln ((wme R_36 (tr 1 m9) R_36v 0 (vse R_36 R_25v))) ((ne R_36 + 1)) ≤ dp (tr 10 m9) := (by rw [m_48E]; have := x6_.2; omega)
          have R_49b0 : bgn ((wme R_36 (tr 1 m9) R_36v 0 (vse R_36 R_25v))) ≤ al := by omega
          refine m_ci (m_runV (As := [.int (nI (tr 10 m9)), .int (sgt (ne R_36 + 1))]) (rest := []) ⟨hx, hb, hml, hown, htu⟩ (ih l G hDD o_45 F_46 tr N dp mk al R_36vs R_36ph ((wme R_36 (tr 1 m9) R_36v 0 (vse R_36 R_25v))) (tr 10 m9) ((ne R_36 + 1)) ((hT.keep (u := (o_45, F_46)) (fun k hk => m_48K.2.2.2.2.1 k (LW7 hk)))) ((fun q hq => ((congrFun (m_48K.2.2.2.2.1 2 (by decide)).2 _).trans (hmk q hq)))) hTm m_48K.1 m_48W m_48z ((fun h => h67 (m_48K.2.2.2.1.2.2.2.symm.trans h))) (⟨by omega, by omega, by omega, by omega⟩) R_49n0 R_49e0 R_49l0 ((m_48K.2.2.2.1.2.1.trans hd)) ((by omega)) H.size) (cwV 2 htu gU_X8_does rfl rfl rfl (by decide +kernel) ⟨show (3 * fu + 3) + 1 ≤ 3 * fu + 5 by omega, show 8 + (4 + 11) + (80 * fu + 100) ≤ 80 * fu + 146 by omega⟩) hP hK rfl hl.1 rfl (lv_room (Nat.le_of_ble_eq_true rfl)) dX8_doing_215) hS (fun r_50 o_51 F_52 H locs hw_53 hP hS => ?_)
          try dsimp only at hw_53
          exact m_iret (v := r_50) hx hb hr hK hP hS (by rw [wmd_4 hk, wmApply_3 R_25e R_25z R_36e R_36z, show wmApply3 tr (wmx tr mk al fu) R_36 n R_25v R_36v = (wmx tr mk al fu) (wme R_36 (tr 1 m9) R_36v 0 (vse R_36 R_25v)) (tr 10 m9) (ne R_36 + 1) from by (unfold wmApply3; rw [if_pos hv2, hm9])]; exact YQ.tail m_48K hw_53 m_48XX.1 (by decide)) dX8_doing_218 hlocks
        · skip
          refine lv_aload_n hx hb dX8_doing_165 rfl (lv_at hl 4 rfl) ?_
          refine lv_iconst (v := 1) hx hb dX8_doing_166 (by decide) ?_
          refine lv_iload_n hx hb dX8_doing_167 rfl (lv_at hl 5 rfl) ?_
          refine m_ci (m_runV (As := [.int 1, .int (nI n)]) (rest := []) ⟨hx, hb, hml, hown, htu⟩ (m_halts l G hDD o_38 F_39 1 (nI n) H.size) (cwV 2 htu gU_X8_halts rfl rfl rfl (by decide +kernel) ⟨show 0 + 1 ≤ 3 * fu + 5 by omega, show 8 + (3 + 11) + 0 ≤ 80 * fu + 146 by omega⟩) hP hK rfl hl.1 rfl (lv_room (Nat.le_of_ble_eq_true rfl)) dX8_doing_168) hS (fun r_54 o_55 F_56 H locs hw_57 hP hS => ?_)
          try dsimp only at hw_57
          exact m_iret (v := r_54) hx hb hr hK hP hS (by rw [wmd_4 hk, wmApply_3 R_25e R_25z R_36e R_36z, show wmApply3 tr (wmx tr mk al fu) R_36 n R_25v R_36v = wmh R_36 1 n from if_neg (fun h => c_43 (by rw [h]; rfl))]; exact YK.halt R_36K (fun h => h67 (R_36K.2.2.2.1.2.2.2.symm.trans h)) (why := 1) (n := n) (by decide) rfl rfl hw_57.2) dX8_doing_171 hlocks
  rcases Decidable.em (nI (tr 0 n) = 5) with c_58 | c_58
  · skip
    refine lv_tableIn (tgt := 219) hx hb dX8_doing_29 (by rw [c_58]; decide) (by rw [c_58]; decide) (by rw [c_58]; rfl) (by decide) ?_
    have hk : tr 0 n = 5 := (nI_eq (b := 5) (by omega) (by omega)).mp c_58
    have tp := tn.2.2.2.2.2.2.1
    rw [hk] at tp
    have hp9 : prts (tr 0 n) (tr 2 n) = tr 2 n := prts_of.2.2.1 hk
    refine lv_aload_n hx hb dX8_doing_219 rfl (lv_at hl 2 rfl) ?_
    refine lv_iconst (v := 3) hx hb dX8_doing_220 (by decide) ?_
    refine lv_iload_n hx hb dX8_doing_221 rfl (lv_at hl 3 rfl) ?_
    refine lv_aload_n hx hb dX8_doing_222 rfl (lv_at hl 2 rfl) ?_
    refine m_get (v := .ref (md G 3)) hx hb htu wu_in hown hK hP 3 (by decide) (htu _ U_4) rfl rfl dX8_doing_223 ?_
    refine lv_iload_n hx hb dX8_doing_226 rfl (lv_at hl 3 rfl) ?_
    refine m_ald (j := n) (v := nI (tr 2 n)) hx hb hK hP 3 3 rfl (by omega) (by decide) tn.2.2.2.1 dX8_doing_227 ?_
    refine m_ci (m_runV (As := [.int 3, .int (nI n), .int (nI (tr 2 n))]) (rest := []) ⟨hx, hb, hml, hown, htu⟩ (m_made l G hDD o F vs 3 (nI n) (nI (tr 2 n)) hR.1.1 ((by omega)) H.size) (cwV 3 htu gU_X8_made rfl rfl rfl (by decide +kernel) ⟨show 0 + 1 ≤ 3 * fu + 5 by omega, show 8 + (4 + 11) + 0 ≤ 80 * fu + 146 by omega⟩) hP hK rfl hl.1 rfl (lv_room (Nat.le_of_ble_eq_true rfl)) dX8_doing_228) hS (fun r_59 o_60 F_61 H locs hw_62 hP hS => ?_)
    try dsimp only at hw_62
    obtain ⟨hr5, hm5⟩ := hw_62
    subst hr5
    have hYR := YR.ze (f := wmx tr mk al fu) (e9 := e9) hR hWf h0 hz3 h6 hm5
    refine lv_istore (lv' := [(5, .int (nI vs)), (4, .int (F 4 (6 * n + 1))), (3, .int (F 4 (6 * n))), (0, .ref (mh G)), (1, .int (nI n)), (2, .int (sgt e9))]) hx hb dX8_doing_231 hl (by decide) rfl (fun ls hl => ?_)
    refine lv_iconst (v := 0) hx hb dX8_doing_233 (by decide) ?_
    refine lv_istore (lv' := [(6, .int 0), (5, .int (nI vs)), (4, .int (F 4 (6 * n + 1))), (3, .int (F 4 (6 * n))), (0, .ref (mh G)), (1, .int (nI n)), (2, .int (sgt e9))]) hx hb dX8_doing_234 hl (by decide) rfl (fun ls hl => ?_)
    refine w_loop (fun j H locs k sl g => ∃ (o1 : Nat → Int32) (F1 : Nat → Nat → Int32) (s2 : wmS) (vs1 : Nat) (φ1 : Nat → Nat) (vl : List Nat) (i : Nat) (ls : Array Slot), i + j = tr 2 n ∧ (YR tr N dp (wmx tr mk al fu) al vs φ o F ws n e9 s2 vs1 φ1 vl i (o1, F1) ∨ (YH o F s2 (o1, F1) ∧ wmRecord tr (wmx tr mk al fu) ws n e9 = (s2, 0))) ∧ F1 3 n = nI (tr 2 n) ∧ k = 0 ∧ sl = 0 ∧ mP G o1 F1 H ∧ va_S (mA G s.heap.size) s.heap H locs ∧ lv_has ls 7 [(0, .ref (mh G)), (1, .int (nI n)), (2, .int (sgt e9)), (5, .int (nI vs)), (6, .int (nI i))] ∧ g = F0 m 236 ls []) ?_ ?_ ((tr 2 n)) _ _ _ _ _ ⟨o_60, (F_61), ws, (vs + 1), φ, [], 0, ls, by omega, (Or.inl hYR), ((congrFun (hYR.2.2.2.2.1.2.2.2.2.1 3 (by decide)).2 _).trans tn.2.2.2.1), rfl, rfl, hP, hS, lv_sub hl [4, 5, 6, 1, 0] rfl, rfl⟩
    · intro H locs k sl g hI
      obtain ⟨o1, F1, s2, vs1, φ1, vl, i, ls, hp0, hp1, hp2, rfl, rfl, hP, hS, hl, rfl⟩ := hI
      refine lv_iload hx hb dX8_doing_236 (lv_at hl 4 rfl) ?_
      refine lv_aload_n hx hb dX8_doing_238 rfl (lv_at hl 0 rfl) ?_
      refine m_get (v := .ref (md G 3)) hx hb htu wu_in hown hK hP 3 (by decide) (htu _ U_4) rfl rfl dX8_doing_239 ?_
      refine lv_iload_n hx hb dX8_doing_242 rfl (lv_at hl 1 rfl) ?_
      refine m_ald (j := n) (v := nI (tr 2 n)) hx hb hK hP 3 3 rfl (by omega) (by decide) hp2 dX8_doing_243 ?_
      refine lv_icmp_ge (tgt := 290) hx hb dX8_doing_244 (by decide) (fun c_63 => ?_) (fun c_63 => absurd (nI_le (by omega) (by omega)) c_63)
      refine lv_iload hx hb dX8_doing_290 (lv_at hl 3 rfl) ?_
      exact m_iret (v := nI vs) hx hb hr hK hP hS (by rw [wmd_5 hk]; exact hp1.elim (fun h => h.en (by omega) h6) (fun h => by rw [h.2]; exact Or.inl h.1)) dX8_doing_292 hlocks
    · intro j ih9 H locs k sl g hI
      obtain ⟨o1, F1, s2, vs1, φ1, vl, i, ls, hp0, hp1, hp2, rfl, rfl, hP, hS, hl, rfl⟩ := hI
      have ni : i < tr 2 n := by omega
      rcases hp1 with hr | ⟨hh, hrec⟩
      · skip
        have hr5 := hr.2.2.2.2.1
        obtain ⟨yc1, yc2, yc3, yc4⟩ := hr.2.2.2.1
        obtain ⟨yf1, yf2⟩ := hr5.2.1
        have hci : tr (10 + i) n < N ∧ dp n + 1 ≤ dp (tr (10 + i) n) := (hTm.1 n hn).2.2 i (by rw [hp9]; exact ni)
        have t1_ : F 4 (6 * n + i) = nI (tr (10 + i) n) := (tp i ni).1
        refine lv_iload hx hb dX8_doing_236 (lv_at hl 4 rfl) ?_
        refine lv_aload_n hx hb dX8_doing_238 rfl (lv_at hl 0 rfl) ?_
        refine m_get (v := .ref (md G 3)) hx hb htu wu_in hown hK hP 3 (by decide) (htu _ U_4) rfl rfl dX8_doing_239 ?_
        refine lv_iload_n hx hb dX8_doing_242 rfl (lv_at hl 1 rfl) ?_
        refine m_ald (j := n) (v := nI (tr 2 n)) hx hb hK hP 3 3 rfl (by omega) (by decide) hp2 dX8_doing_243 ?_
        refine lv_icmp_ge (tgt := 290) hx hb dX8_doing_244 (by decide) (fun c_64 => absurd c_64 (nI_ge ni (by omega))) (fun c_64 => ?_)
        refine lv_aload_n hx hb dX8_doing_247 rfl (lv_at hl 0 rfl) ?_
        refine m_get (v := .int (o1 67)) hx hb htu wu_in hown hK hP 67 (by decide) (htu _ U_221) rfl rfl dX8_doing_248 ?_
        refine lv_if_eq (tgt := 290) hx hb dX8_doing_251 (by decide) (fun c_65 => absurd c_65 (fun h => h67 (hr5.2.2.2.1.2.2.2.symm.trans h))) (fun c_65 => ?_)
        refine lv_aload_n hx hb dX8_doing_254 rfl (lv_at hl 0 rfl) ?_
        refine m_get (v := .ref (md G 55)) hx hb htu wu_in hown hK hP 55 (by decide) (htu _ U_240) rfl rfl dX8_doing_255 ?_
        refine lv_bipush (v := 6) hx hb dX8_doing_258 (by decide) ?_
        refine lv_iload hx hb dX8_doing_260 (lv_at hl 3 rfl) ?_
        refine lv_imul hx hb dX8_doing_262 ?_
        refine m_top (y := nI (6 * vs)) (pk_mul 6 vs) ?_
        refine lv_iload hx hb dX8_doing_263 (lv_at hl 4 rfl) ?_
        refine lv_iadd hx hb dX8_doing_265 ?_
        refine m_top (y := nI (6 * vs + i)) (nI_add (6 * vs) i) ?_
        refine lv_aload_n hx hb dX8_doing_266 rfl (lv_at hl 0 rfl) ?_
        refine lv_aload_n hx hb dX8_doing_267 rfl (lv_at hl 0 rfl) ?_
        refine m_get (v := .ref (md G 4)) hx hb htu wu_in hown hK hP 4 (by decide) (htu _ U_6) rfl rfl dX8_doing_268 ?_
        refine lv_bipush (v := 6) hx hb dX8_doing_271 (by decide) ?_
        refine lv_iload_n hx hb dX8_doing_273 rfl (lv_at hl 1 rfl) ?_
        refine lv_imul hx hb dX8_doing_274 ?_
        refine m_top (y := nI (6 * n)) (pk_mul 6 n) ?_
        refine lv_iload hx hb dX8_doing_275 (lv_at hl 4 rfl) ?_
        refine lv_iadd hx hb dX8_doing_277 ?_
        refine m_top (y := nI (6 * n + i)) (nI_add (6 * n) i) ?_
        refine m_ald (j := 6 * n + i) (v := nI (tr (10 + i) n)) hx hb hK hP 4 4 rfl (by omega) (by decide) ((congrFun (hr5.2.2.2.2.1 4 (by decide)).2 _).trans t1_) dX8_doing_278 ?_
        refine lv_iload_n hx hb dX8_doing_279 rfl (lv_at hl 2 rfl) ?_
        have R_66n0 : tr (10 + i) n < N := hci.1
        have R_66e0 : e9 ≤ ne s2 := (Nat.le_trans he hr.2.2.1.2.1)
        have R_66l0 : eln s2 e9 ≤ dp (tr (10 + i) n) := (by rw [hr.2.2.1.eln he]; have := hci.2; omega)
        have R_66b0 : bgn s2 ≤ al := by omega
        refine m_ci (m_runV (As := [.int (nI (tr (10 + i) n)), .int (sgt e9)]) (rest := [.int (nI (6 * vs + i)), .ref (md G 55)]) ⟨hx, hb, hml, hown, htu⟩ (ih l G hDD o1 F1 tr N dp mk al vs1 φ1 s2 (tr (10 + i) n) e9 ((hT.keep (u := (o1, F1)) (fun k hk => hr5.2.2.2.2.1 k (LW7 hk)))) ((fun q hq => ((congrFun (hr5.2.2.2.2.1 2 (by decide)).2 _).trans (hmk q hq)))) hTm hr5.1 hr.2.1 hr.1 ((fun h => h67 (hr5.2.2.2.1.2.2.2.symm.trans h))) (⟨by omega, by omega, by omega, by omega⟩) R_66n0 R_66e0 R_66l0 ((hr5.2.2.2.1.2.1.trans hd)) ((by omega)) H.size) (cwV 2 htu gU_X8_does rfl rfl rfl (by decide +kernel) ⟨show (3 * fu + 3) + 1 ≤ 3 * fu + 5 by omega, show 8 + (4 + 11) + (80 * fu + 100) ≤ 80 * fu + 146 by omega⟩) hP hK rfl hl.1 rfl (lv_room (Nat.le_of_ble_eq_true rfl)) dX8_doing_280) hS (fun r_67 o_68 F_69 H locs hw_70 hP hS => ?_)
        try dsimp only at hw_70
        obtain ⟨R_66, R_66v, R_66e⟩ : ∃ a b, wmx tr mk al fu s2 (tr (10 + i) n) e9 = (a, b) := ⟨_, _, rfl⟩
        have R_66p := wmx_ok hTm mk al fu s2 (tr (10 + i) n) e9 hr.2.1 hr.1 R_66b0 R_66n0 R_66e0 R_66l0
        rw [R_66e] at hw_70 R_66p
        obtain ⟨R_66W, R_66X, R_66c, R_66i⟩ := R_66p
        obtain ⟨R_66c1, R_66c2, R_66c3, R_66c4⟩ := R_66c
        dsimp only at R_66W R_66X R_66c1 R_66c2 R_66c3 R_66c4 R_66i
        rcases hw_70 with R_66h | ⟨R_66z, R_66vs, R_66ph, R_66k, R_66r⟩
        · skip
          dsimp only at R_66h
          refine m_ast (j := 6 * vs + i) (x := r_67) hx hb hK hP hDD hS 34 55 rfl (by omega) (by decide) (mW_a55 _ _ _ _ _) dX8_doing_283 (fun H locs hP hS => ?_)
          refine lv_iinc (v := nI (i + 1)) (lv' := [(6, .int (nI (i + 1))), (0, .ref (mh G)), (1, .int (nI n)), (2, .int (sgt e9)), (5, .int (nI vs))]) hx hb dX8_doing_284 hl (k := 4) rfl (nI_1 i) (by decide) rfl (fun ls hl => ?_)
          refine lv_goto (tgt := 236) hx hb dX8_doing_287 (by decide) ?_
          exact ih9 _ _ _ _ _ ⟨o_68, (fput F_69 55 (6 * vs + i) r_67), R_66, 0, φ, [], i + 1, ls, by omega, (Or.inr ⟨(YR.ha hr ni R_66e R_66h).1.fp, (YR.ha hr ni R_66e R_66h).2⟩), ((congrFun ((YR.ha hr ni R_66e R_66h).1.2.2.2.2.2.2 3 (by decide)).2 _).trans tn.2.2.2.1), rfl, rfl, hP, hS, lv_sub hl [1, 2, 3, 4, 0] rfl, rfl⟩
        · skip
          dsimp only at R_66z R_66k R_66r
          subst R_66r
          have R_66K := YK.trans hr5 R_66k hr.2.2.1.1
          have R_66XX := hr.2.2.1.tr R_66X
          have R_66vi := R_66i R_66z
          obtain ⟨R_66y1, R_66y2⟩ := R_66K.2.1
          obtain ⟨R_66g, R_66V⟩ := R_66K.1.2.1 R_66v R_66vi
          refine m_ast (j := 6 * vs + i) (x := nI (R_66ph R_66v)) hx hb hK hP hDD hS 34 55 rfl (by omega) (by decide) (mW_a55 _ _ _ _ _) dX8_doing_283 (fun H locs hP hS => ?_)
          refine lv_iinc (v := nI (i + 1)) (lv' := [(6, .int (nI (i + 1))), (0, .ref (mh G)), (1, .int (nI n)), (2, .int (sgt e9)), (5, .int (nI vs))]) hx hb dX8_doing_284 hl (k := 4) rfl (nI_1 i) (by decide) rfl (fun ls hl => ?_)
          refine lv_goto (tgt := 236) hx hb dX8_doing_287 (by decide) ?_
          exact ih9 _ _ _ _ _ ⟨o_68, (fput F_69 55 (6 * vs + i) (nI (R_66ph R_66v))), R_66, R_66vs, R_66ph, (vl ++ [R_66v]), i + 1, ls, by omega, (Or.inl (YR.st hr ni tn3 h6 R_66e R_66W R_66X ⟨R_66c1, R_66c2, R_66c3, R_66c4⟩ R_66z R_66vi R_66k)), ((congrFun (R_66K.2.2.2.2.1 3 (by decide)).2 _).trans tn.2.2.2.1), rfl, rfl, hP, hS, lv_sub hl [1, 2, 3, 4, 0] rfl, rfl⟩
      · skip
        refine lv_iload hx hb dX8_doing_236 (lv_at hl 4 rfl) ?_
        refine lv_aload_n hx hb dX8_doing_238 rfl (lv_at hl 0 rfl) ?_
        refine m_get (v := .ref (md G 3)) hx hb htu wu_in hown hK hP 3 (by decide) (htu _ U_4) rfl rfl dX8_doing_239 ?_
        refine lv_iload_n hx hb dX8_doing_242 rfl (lv_at hl 1 rfl) ?_
        refine m_ald (j := n) (v := nI (tr 2 n)) hx hb hK hP 3 3 rfl (by omega) (by decide) hp2 dX8_doing_243 ?_
        refine lv_icmp_ge (tgt := 290) hx hb dX8_doing_244 (by decide) (fun c_71 => absurd c_71 (nI_ge ni (by omega))) (fun c_71 => ?_)
        refine lv_aload_n hx hb dX8_doing_247 rfl (lv_at hl 0 rfl) ?_
        refine m_get (v := .int (o1 67)) hx hb htu wu_in hown hK hP 67 (by decide) (htu _ U_221) rfl rfl dX8_doing_248 ?_
        refine lv_if_eq (tgt := 290) hx hb dX8_doing_251 (by decide) (fun c_72 => ?_) (fun c_72 => absurd hh.2.1 c_72)
        refine lv_iload hx hb dX8_doing_290 (lv_at hl 3 rfl) ?_
        exact m_iret (v := nI vs) hx hb hr hK hP hS (by rw [wmd_5 hk, hrec]; exact Or.inl hh) dX8_doing_292 hlocks
  rcases Decidable.em (nI (tr 0 n) = 6) with c_73 | c_73
  · skip
    refine lv_tableIn (tgt := 293) hx hb dX8_doing_29 (by rw [c_73]; decide) (by rw [c_73]; decide) (by rw [c_73]; rfl) (by decide) ?_
    have hk : tr 0 n = 6 := (nI_eq (b := 6) (by omega) (by omega)).mp c_73
    have tp := tn.2.2.2.2.2.2.1
    rw [hk] at tp
    have hp9 : prts (tr 0 n) (tr 2 n) = 1 := by rw [hk]; rfl
    have hch0 : tr 10 n < N ∧ dp n + 1 ≤ dp (tr 10 n) := (hTm.1 n hn).2.2 0 (by rw [hp9]; decide)
    obtain ⟨ea_, p0_, -⟩ := tp 0 (show 0 < 1 by decide)
    rw [show F 4 (6 * n) = nI (tr 10 n) from ea_] at hl
    refine lv_aload_n hx hb dX8_doing_293 rfl (lv_at hl 2 rfl) ?_
    refine lv_iload_n hx hb dX8_doing_294 rfl (lv_at hl 1 rfl) ?_
    refine lv_iload_n hx hb dX8_doing_295 rfl (lv_at hl 4 rfl) ?_
    have R_74n0 : tr 10 n < N := hch0.1
    have R_74e0 : e9 ≤ ne ws := (Nat.le_trans he (Xt.rf (s := ws)).2.1)
    have R_74l0 : eln ws e9 ≤ dp (tr 10 n) := (by rw [(Xt.rf (s := ws)).eln he]; have := hch0.2; omega)
    have R_74b0 : bgn ws ≤ al := by omega
    refine m_ci (m_runV (As := [.int (nI (tr 10 n)), .int (sgt e9)]) (rest := []) ⟨hx, hb, hml, hown, htu⟩ (ih l G hDD o F tr N dp mk al vs φ ws (tr 10 n) e9 ((hT.keep (u := (o, F)) (fun k hk => (YK.rf hR).2.2.2.2.1 k (LW7 hk)))) ((fun q hq => ((congrFun ((YK.rf hR).2.2.2.2.1 2 (by decide)).2 _).trans (hmk q hq)))) hTm ((YK.rf hR).1) hWf h0 ((fun h => h67 ((YK.rf hR).2.2.2.1.2.2.2.symm.trans h))) (⟨by omega, by omega, by omega, by omega⟩) R_74n0 R_74e0 R_74l0 (((YK.rf hR).2.2.2.1.2.1.trans hd)) ((by omega)) H.size) (cwV 2 htu gU_X8_does rfl rfl rfl (by decide +kernel) ⟨show (3 * fu + 3) + 1 ≤ 3 * fu + 5 by omega, show 8 + (4 + 11) + (80 * fu + 100) ≤ 80 * fu + 146 by omega⟩) hP hK rfl hl.1 rfl (lv_room (Nat.le_of_ble_eq_true rfl)) dX8_doing_296) hS (fun r_75 o_76 F_77 H locs hw_78 hP hS => ?_)
    try dsimp only at hw_78
    obtain ⟨R_74, R_74v, R_74e⟩ : ∃ a b, wmx tr mk al fu ws (tr 10 n) e9 = (a, b) := ⟨_, _, rfl⟩
    have R_74p := wmx_ok hTm mk al fu ws (tr 10 n) e9 hWf h0 R_74b0 R_74n0 R_74e0 R_74l0
    rw [R_74e] at hw_78 R_74p
    obtain ⟨R_74W, R_74X, R_74c, R_74i⟩ := R_74p
    obtain ⟨R_74c1, R_74c2, R_74c3, R_74c4⟩ := R_74c
    dsimp only at R_74W R_74X R_74c1 R_74c2 R_74c3 R_74c4 R_74i
    rcases hw_78 with R_74h | ⟨R_74z, R_74vs, R_74ph, R_74k, R_74r⟩
    · skip
      dsimp only at R_74h
      refine lv_istore (lv' := [(5, .int r_75), (4, .int (F 4 (6 * n + 1))), (3, .int (nI (tr 10 n))), (0, .ref (mh G)), (1, .int (nI n)), (2, .int (sgt e9))]) hx hb dX8_doing_299 hl (by decide) rfl (fun ls hl => ?_)
      refine lv_aload_n hx hb dX8_doing_301 rfl (lv_at hl 3 rfl) ?_
      refine m_get (v := .int (o_76 67)) hx hb htu wu_in hown hK hP 67 (by decide) (htu _ U_221) rfl rfl dX8_doing_302 ?_
      refine lv_if_eq (tgt := 339) hx hb dX8_doing_305 (by decide) (fun c_79 => ?_) (fun c_79 => absurd R_74h.2.1 c_79)
      refine lv_bipush (v := (-9)) hx hb dX8_doing_339 (by decide) ?_
      refine lv_istore (lv' := [(6, .int ((-9))), (5, .int r_75), (4, .int (F 4 (6 * n + 1))), (3, .int (nI (tr 10 n))), (0, .ref (mh G)), (1, .int (nI n)), (2, .int (sgt e9))]) hx hb dX8_doing_341 hl (by decide) rfl (fun ls hl => ?_)
      refine lv_aload_n hx hb dX8_doing_343 rfl (lv_at hl 4 rfl) ?_
      refine m_get (v := .int (o_76 67)) hx hb htu wu_in hown hK hP 67 (by decide) (htu _ U_221) rfl rfl dX8_doing_344 ?_
      refine lv_if_ne (tgt := 355) hx hb dX8_doing_347 (by decide) (fun c_80 => absurd R_74h.2.1 c_80) (fun c_80 => ?_)
      refine lv_bipush (v := (-9)) hx hb dX8_doing_350 (by decide) ?_
      refine lv_goto (tgt := 384) hx hb dX8_doing_352 (by decide) ?_
      exact m_iret (v := (-9)) hx hb hr hK hP hS (by rw [wmd_6 hk, wmField_1 R_74e R_74h.1]; exact YQ.stop (YK.rf hR) R_74h) dX8_doing_384 hlocks
    · skip
      dsimp only at R_74z R_74k R_74r
      subst R_74r
      have R_74K := YK.trans (YK.rf hR) R_74k (Xt.rf (s := ws)).1
      have R_74XX := (Xt.rf (s := ws)).tr R_74X
      have R_74vi := R_74i R_74z
      obtain ⟨R_74y1, R_74y2⟩ := R_74K.2.1
      obtain ⟨R_74g, R_74V⟩ := R_74K.1.2.1 R_74v R_74vi
      refine lv_istore (lv' := [(5, .int (nI (R_74ph R_74v))), (4, .int (F 4 (6 * n + 1))), (3, .int (nI (tr 10 n))), (0, .ref (mh G)), (1, .int (nI n)), (2, .int (sgt e9))]) hx hb dX8_doing_299 hl (by decide) rfl (fun ls hl => ?_)
      refine lv_aload_n hx hb dX8_doing_301 rfl (lv_at hl 3 rfl) ?_
      refine m_get (v := .int (o_76 67)) hx hb htu wu_in hown hK hP 67 (by decide) (htu _ U_221) rfl rfl dX8_doing_302 ?_
      refine lv_if_eq (tgt := 339) hx hb dX8_doing_305 (by decide) (fun c_81 => absurd c_81 (fun h => h67 (R_74K.2.2.2.1.2.2.2.symm.trans h))) (fun c_81 => ?_)
      refine lv_aload_n hx hb dX8_doing_308 rfl (lv_at hl 3 rfl) ?_
      refine m_get (v := .ref (md G 52)) hx hb htu wu_in hown hK hP 52 (by decide) (htu _ U_237) rfl rfl dX8_doing_309 ?_
      refine lv_iload hx hb dX8_doing_312 (lv_at hl 0 rfl) ?_
      refine m_ald (j := R_74ph R_74v) (v := nI (vso R_74 R_74v)) hx hb hK hP 31 52 rfl (by omega) (by decide) R_74V.1 dX8_doing_314 ?_
      refine lv_iconst (v := 3) hx hb dX8_doing_315 (by decide) ?_
      refine lv_icmp_ne (tgt := 339) hx hb dX8_doing_316 (by decide) (fun c_82 => ?_) (fun c_82 => ?_)
      · skip
        refine lv_bipush (v := (-9)) hx hb dX8_doing_339 (by decide) ?_
        refine lv_istore (lv' := [(6, .int ((-9))), (5, .int (nI (R_74ph R_74v))), (4, .int (F 4 (6 * n + 1))), (3, .int (nI (tr 10 n))), (0, .ref (mh G)), (1, .int (nI n)), (2, .int (sgt e9))]) hx hb dX8_doing_341 hl (by decide) rfl (fun ls hl => ?_)
        refine lv_aload_n hx hb dX8_doing_343 rfl (lv_at hl 4 rfl) ?_
        refine m_get (v := .int (o_76 67)) hx hb htu wu_in hown hK hP 67 (by decide) (htu _ U_221) rfl rfl dX8_doing_344 ?_
        refine lv_if_ne (tgt := 355) hx hb dX8_doing_347 (by decide) (fun c_83 => ?_) (fun c_83 => absurd c_83 (fun h => h67 (R_74K.2.2.2.1.2.2.2.symm.trans h)))
        refine lv_iload hx hb dX8_doing_355 (lv_at hl 0 rfl) ?_
        refine lv_bipush (v := (-9)) hx hb dX8_doing_357 (by decide) ?_
        refine lv_icmp_ne (tgt := 371) hx hb dX8_doing_359 (by decide) (fun c_84 => absurd (by decide) c_84) (fun c_84 => ?_)
        refine lv_aload_n hx hb dX8_doing_362 rfl (lv_at hl 4 rfl) ?_
        refine lv_iconst (v := 1) hx hb dX8_doing_363 (by decide) ?_
        refine lv_iload_n hx hb dX8_doing_364 rfl (lv_at hl 5 rfl) ?_
        refine m_ci (m_runV (As := [.int 1, .int (nI n)]) (rest := []) ⟨hx, hb, hml, hown, htu⟩ (m_halts l G hDD o_76 F_77 1 (nI n) H.size) (cwV 2 htu gU_X8_halts rfl rfl rfl (by decide +kernel) ⟨show 0 + 1 ≤ 3 * fu + 5 by omega, show 8 + (3 + 11) + 0 ≤ 80 * fu + 146 by omega⟩) hP hK rfl hl.1 rfl (lv_room (Nat.le_of_ble_eq_true rfl)) dX8_doing_365) hS (fun r_85 o_86 F_87 H locs hw_88 hP hS => ?_)
        try dsimp only at hw_88
        refine lv_goto (tgt := 384) hx hb dX8_doing_368 (by decide) ?_
        exact m_iret (v := r_85) hx hb hr hK hP hS (by rw [wmd_6 hk, wmField_2 R_74e R_74z, show wmField2 tr R_74 n R_74v = wmh R_74 1 n from if_neg (fun h => c_82 (by rw [h]; rfl))]; exact YK.halt R_74K (fun h => h67 (R_74K.2.2.2.1.2.2.2.symm.trans h)) (why := 1) (n := n) (by decide) rfl rfl hw_88.2) dX8_doing_384 hlocks
      · skip
        have hv3 : vso R_74 R_74v = 3 := (nI_eq (b := 3) (by have := (R_74W.1 _ R_74vi).1; omega) (by omega)).mp c_82
        obtain ⟨x1_, x2_, x3_, x4_⟩ := (R_74W.1 _ R_74vi).2.2 hv3
        obtain ⟨m9, hm9⟩ : ∃ m9, vno R_74 R_74v = m9 := ⟨_, rfl⟩
        rw [hm9] at x1_ x2_ x3_
        have tm3 := h6 m9 x1_
        have tm5 := (hT.2.2 m9 x1_).2.2.2.2.2.2.2.1 x2_
        obtain ⟨hV1, hV2, hV3⟩ := R_74V.2.2.2 hv3
        rw [hm9] at hV1
        refine lv_aload_n hx hb dX8_doing_319 rfl (lv_at hl 3 rfl) ?_
        refine lv_aload_n hx hb dX8_doing_320 rfl (lv_at hl 3 rfl) ?_
        refine m_get (v := .ref (md G 53)) hx hb htu wu_in hown hK hP 53 (by decide) (htu _ U_238) rfl rfl dX8_doing_321 ?_
        refine lv_iload hx hb dX8_doing_324 (lv_at hl 0 rfl) ?_
        refine m_ald (j := R_74ph R_74v) (v := nI m9) hx hb hK hP 32 53 rfl (by omega) (by decide) hV1 dX8_doing_326 ?_
        refine lv_aload_n hx hb dX8_doing_327 rfl (lv_at hl 3 rfl) ?_
        refine m_get (v := .ref (md G 2)) hx hb htu wu_in hown hK hP 2 (by decide) (htu _ U_3) rfl rfl dX8_doing_328 ?_
        refine lv_iload_n hx hb dX8_doing_331 rfl (lv_at hl 4 rfl) ?_
        refine m_ald (j := n) (v := nI (tr 1 n)) hx hb hK hP 2 2 rfl (by omega) (by decide) ((congrFun (R_74K.2.2.2.2.1 2 (by decide)).2 _).trans (tn.2.2.1 (Or.inr (Or.inr (Or.inl hk)))).1) dX8_doing_332 ?_
        refine m_ci (m_runV (As := [.int (nI m9), .int (nI (tr 1 n))]) (rest := []) ⟨hx, hb, hml, hown, htu⟩ (m_placeOf l G hDD o_76 F_77 N m9 (tr 2 m9) (nI (tr 1 n)) hN x1_ (((congrFun (R_74K.2.2.2.2.1 3 (by decide)).2 _).trans (hT.2.2 m9 x1_).2.2.2.1)) tm3 H.size) (cwV 2 htu gU_X8_placeOf rfl rfl rfl (by decide +kernel) ⟨show 0 + 1 ≤ 3 * fu + 5 by omega, show 8 + (4 + 11) + 0 ≤ 80 * fu + 146 by omega⟩) hP hK rfl hl.1 rfl (lv_room (Nat.le_of_ble_eq_true rfl)) dX8_doing_333) hS (fun r_89 o_90 F_91 H locs hw_92 hP hS => ?_)
        try dsimp only at hw_92
        obtain ⟨hu, hc⟩ := hw_92
        obtain ⟨h91, h92⟩ := Prod.mk.inj hu
        have h91 := h91.symm
        subst h91
        have h92 := h92.symm
        subst h92
        have h26 := hTm.2.2 n hn (Or.inr (Or.inr (Or.inl hk)))
        have tm6 : ∀ i, i < tr 2 m9 → F_77 5 (6 * m9 + i) = nI (tr (20 + i) m9) ∧ tr (20 + i) m9 < 26 := fun i hi => ⟨(congrFun (R_74K.2.2.2.2.1 5 (by decide)).2 _).trans (tm5 i hi).1, (tm5 i hi).2⟩
        rcases hc with ⟨z1, z2⟩ | ⟨i9, i9a, z1, z2, z3⟩
        · skip
          subst z1
          have hpl : wmpl tr m9 (tr 1 n) (tr 2 m9) 0 = 0 + tr 2 m9 := wmpl_no _ _ (fun j h1 h2 e => z2 j (by omega) ((tm6 j (by omega)).1.trans (congrArg nI e)))
          refine lv_goto (tgt := 341) hx hb dX8_doing_336 (by decide) ?_
          refine lv_istore (lv' := [(6, .int ((-9))), (5, .int (nI (R_74ph R_74v))), (4, .int (F 4 (6 * n + 1))), (3, .int (nI (tr 10 n))), (0, .ref (mh G)), (1, .int (nI n)), (2, .int (sgt e9))]) hx hb dX8_doing_341 hl (by decide) rfl (fun ls hl => ?_)
          refine lv_aload_n hx hb dX8_doing_343 rfl (lv_at hl 4 rfl) ?_
          refine m_get (v := .int (o_76 67)) hx hb htu wu_in hown hK hP 67 (by decide) (htu _ U_221) rfl rfl dX8_doing_344 ?_
          refine lv_if_ne (tgt := 355) hx hb dX8_doing_347 (by decide) (fun c_93 => ?_) (fun c_93 => absurd c_93 (fun h => h67 (R_74K.2.2.2.1.2.2.2.symm.trans h)))
          refine lv_iload hx hb dX8_doing_355 (lv_at hl 0 rfl) ?_
          refine lv_bipush (v := (-9)) hx hb dX8_doing_357 (by decide) ?_
          refine lv_icmp_ne (tgt := 371) hx hb dX8_doing_359 (by decide) (fun c_94 => absurd (by decide) c_94) (fun c_94 => ?_)
          refine lv_aload_n hx hb dX8_doing_362 rfl (lv_at hl 4 rfl) ?_
          refine lv_iconst (v := 1) hx hb dX8_doing_363 (by decide) ?_
          refine lv_iload_n hx hb dX8_doing_364 rfl (lv_at hl 5 rfl) ?_
          refine m_ci (m_runV (As := [.int 1, .int (nI n)]) (rest := []) ⟨hx, hb, hml, hown, htu⟩ (m_halts l G hDD o_76 F_77 1 (nI n) H.size) (cwV 2 htu gU_X8_halts rfl rfl rfl (by decide +kernel) ⟨show 0 + 1 ≤ 3 * fu + 5 by omega, show 8 + (3 + 11) + 0 ≤ 80 * fu + 146 by omega⟩) hP hK rfl hl.1 rfl (lv_room (Nat.le_of_ble_eq_true rfl)) dX8_doing_365) hS (fun r_95 o_96 F_97 H locs hw_98 hP hS => ?_)
          try dsimp only at hw_98
          refine lv_goto (tgt := 384) hx hb dX8_doing_368 (by decide) ?_
          exact m_iret (v := r_95) hx hb hr hK hP hS (by rw [wmd_6 hk, wmField_2 R_74e R_74z, show wmField2 tr R_74 n R_74v = wmh R_74 1 n from by (unfold wmField2; rw [if_pos hv3, hm9, hpl, if_neg (by omega)])]; exact YK.halt R_74K (fun h => h67 (R_74K.2.2.2.1.2.2.2.symm.trans h)) (why := 1) (n := n) (by decide) rfl rfl hw_98.2) dX8_doing_384 hlocks
        · skip
          subst z1
          have hpl : wmpl tr m9 (tr 1 n) (tr 2 m9) 0 = i9 := wmpl_at _ _ (Nat.zero_le _) (by omega) ((nI_eq (by have := (tm6 i9 i9a).2; omega) (by omega)).mp ((tm6 i9 i9a).1.symm.trans z2)) (fun j h1 h2 e => z3 j h2 ((tm6 j (by omega)).1.trans (congrArg nI e)))
          refine lv_goto (tgt := 341) hx hb dX8_doing_336 (by decide) ?_
          refine lv_istore (lv' := [(6, .int (nI i9)), (5, .int (nI (R_74ph R_74v))), (4, .int (F 4 (6 * n + 1))), (3, .int (nI (tr 10 n))), (0, .ref (mh G)), (1, .int (nI n)), (2, .int (sgt e9))]) hx hb dX8_doing_341 hl (by decide) rfl (fun ls hl => ?_)
          refine lv_aload_n hx hb dX8_doing_343 rfl (lv_at hl 4 rfl) ?_
          refine m_get (v := .int (o_76 67)) hx hb htu wu_in hown hK hP 67 (by decide) (htu _ U_221) rfl rfl dX8_doing_344 ?_
          refine lv_if_ne (tgt := 355) hx hb dX8_doing_347 (by decide) (fun c_99 => ?_) (fun c_99 => absurd c_99 (fun h => h67 (R_74K.2.2.2.1.2.2.2.symm.trans h)))
          refine lv_iload hx hb dX8_doing_355 (lv_at hl 0 rfl) ?_
          refine lv_bipush (v := (-9)) hx hb dX8_doing_357 (by decide) ?_
          refine lv_icmp_ne (tgt := 371) hx hb dX8_doing_359 (by decide) (fun c_100 => ?_) (fun c_100 => absurd c_100 (nI_neg (by decide) (by omega)))
          refine lv_aload_n hx hb dX8_doing_371 rfl (lv_at hl 4 rfl) ?_
          refine m_get (v := .ref (md G 55)) hx hb htu wu_in hown hK hP 55 (by decide) (htu _ U_240) rfl rfl dX8_doing_372 ?_
          refine lv_bipush (v := 6) hx hb dX8_doing_375 (by decide) ?_
          refine lv_iload hx hb dX8_doing_377 (lv_at hl 1 rfl) ?_
          refine lv_imul hx hb dX8_doing_379 ?_
          refine m_top (y := nI (6 * (R_74ph R_74v))) (pk_mul 6 (R_74ph R_74v)) ?_
          refine lv_iload hx hb dX8_doing_380 (lv_at hl 0 rfl) ?_
          refine lv_iadd hx hb dX8_doing_382 ?_
          refine m_top (y := nI (6 * (R_74ph R_74v) + i9)) (nI_add (6 * (R_74ph R_74v)) i9) ?_
          refine m_ald (j := 6 * (R_74ph R_74v) + i9) (v := nI (R_74ph ((R_74.2.2 R_74v).getD i9 0))) hx hb hK hP 34 55 rfl (by omega) (by decide) (hV3 i9 (by rw [x3_]; exact i9a)) dX8_doing_383 ?_
          exact m_iret (v := nI (R_74ph ((R_74.2.2 R_74v).getD i9 0))) hx hb hr hK hP hS (by rw [wmd_6 hk, wmField_2 R_74e R_74z, show wmField2 tr R_74 n R_74v = (R_74, (R_74.2.2 R_74v).getD i9 0) from by (unfold wmField2; rw [if_pos hv3, hm9, hpl, if_pos i9a])]; exact YQ.was R_74K R_74z (by decide) rfl) dX8_doing_384 hlocks
  rcases Decidable.em (nI (tr 0 n) = 7) with c_101 | c_101
  · skip
    refine lv_tableIn (tgt := 385) hx hb dX8_doing_29 (by rw [c_101]; decide) (by rw [c_101]; decide) (by rw [c_101]; rfl) (by decide) ?_
    have hk : tr 0 n = 7 := (nI_eq (b := 7) (by omega) (by omega)).mp c_101
    have tp := tn.2.2.2.2.2.2.1
    rw [hk] at tp
    have hp9 : prts (tr 0 n) (tr 2 n) = 2 := by rw [hk]; rfl
    have hch0 : tr 10 n < N ∧ dp n + 1 ≤ dp (tr 10 n) := (hTm.1 n hn).2.2 0 (by rw [hp9]; decide)
    have hch1 : tr 11 n < N ∧ dp n + 1 ≤ dp (tr 11 n) := (hTm.1 n hn).2.2 1 (by rw [hp9]; decide)
    obtain ⟨ea_, p0_, -⟩ := tp 0 (show 0 < 2 by decide)
    rw [show F 4 (6 * n) = nI (tr 10 n) from ea_] at hl
    obtain ⟨eb_, p1_, -⟩ := tp 1 (show 1 < 2 by decide)
    rw [show F 4 (6 * n + 1) = nI (tr 11 n) from eb_] at hl
    refine lv_aload_n hx hb dX8_doing_385 rfl (lv_at hl 2 rfl) ?_
    refine lv_iload_n hx hb dX8_doing_386 rfl (lv_at hl 1 rfl) ?_
    refine lv_iload_n hx hb dX8_doing_387 rfl (lv_at hl 4 rfl) ?_
    have R_102n0 : tr 10 n < N := hch0.1
    have R_102e0 : e9 ≤ ne ws := (Nat.le_trans he (Xt.rf (s := ws)).2.1)
    have R_102l0 : eln ws e9 ≤ dp (tr 10 n) := (by rw [(Xt.rf (s := ws)).eln he]; have := hch0.2; omega)
    have R_102b0 : bgn ws ≤ al := by omega
    refine m_ci (m_runV (As := [.int (nI (tr 10 n)), .int (sgt e9)]) (rest := []) ⟨hx, hb, hml, hown, htu⟩ (ih l G hDD o F tr N dp mk al vs φ ws (tr 10 n) e9 ((hT.keep (u := (o, F)) (fun k hk => (YK.rf hR).2.2.2.2.1 k (LW7 hk)))) ((fun q hq => ((congrFun ((YK.rf hR).2.2.2.2.1 2 (by decide)).2 _).trans (hmk q hq)))) hTm ((YK.rf hR).1) hWf h0 ((fun h => h67 ((YK.rf hR).2.2.2.1.2.2.2.symm.trans h))) (⟨by omega, by omega, by omega, by omega⟩) R_102n0 R_102e0 R_102l0 (((YK.rf hR).2.2.2.1.2.1.trans hd)) ((by omega)) H.size) (cwV 2 htu gU_X8_does rfl rfl rfl (by decide +kernel) ⟨show (3 * fu + 3) + 1 ≤ 3 * fu + 5 by omega, show 8 + (4 + 11) + (80 * fu + 100) ≤ 80 * fu + 146 by omega⟩) hP hK rfl hl.1 rfl (lv_room (Nat.le_of_ble_eq_true rfl)) dX8_doing_388) hS (fun r_103 o_104 F_105 H locs hw_106 hP hS => ?_)
    try dsimp only at hw_106
    obtain ⟨R_102, R_102v, R_102e⟩ : ∃ a b, wmx tr mk al fu ws (tr 10 n) e9 = (a, b) := ⟨_, _, rfl⟩
    have R_102p := wmx_ok hTm mk al fu ws (tr 10 n) e9 hWf h0 R_102b0 R_102n0 R_102e0 R_102l0
    rw [R_102e] at hw_106 R_102p
    obtain ⟨R_102W, R_102X, R_102c, R_102i⟩ := R_102p
    obtain ⟨R_102c1, R_102c2, R_102c3, R_102c4⟩ := R_102c
    dsimp only at R_102W R_102X R_102c1 R_102c2 R_102c3 R_102c4 R_102i
    rcases hw_106 with R_102h | ⟨R_102z, R_102vs, R_102ph, R_102k, R_102r⟩
    · skip
      dsimp only at R_102h
      refine lv_istore (lv' := [(5, .int r_103), (4, .int (nI (tr 11 n))), (3, .int (nI (tr 10 n))), (0, .ref (mh G)), (1, .int (nI n)), (2, .int (sgt e9))]) hx hb dX8_doing_391 hl (by decide) rfl (fun ls hl => ?_)
      refine lv_aload_n hx hb dX8_doing_393 rfl (lv_at hl 3 rfl) ?_
      refine m_get (v := .int (o_104 67)) hx hb htu wu_in hown hK hP 67 (by decide) (htu _ U_221) rfl rfl dX8_doing_394 ?_
      refine lv_if_eq (tgt := 424) hx hb dX8_doing_397 (by decide) (fun c_107 => ?_) (fun c_107 => absurd R_102h.2.1 c_107)
      refine lv_bipush (v := (-9)) hx hb dX8_doing_424 (by decide) ?_
      exact m_iret (v := (-9)) hx hb hr hK hP hS (by rw [wmd_7 hk, wmLet_1 R_102e R_102h.1]; exact YQ.stop (YK.rf hR) R_102h) dX8_doing_426 hlocks
    · skip
      dsimp only at R_102z R_102k R_102r
      subst R_102r
      have R_102K := YK.trans (YK.rf hR) R_102k (Xt.rf (s := ws)).1
      have R_102XX := (Xt.rf (s := ws)).tr R_102X
      have R_102vi := R_102i R_102z
      obtain ⟨R_102y1, R_102y2⟩ := R_102K.2.1
      obtain ⟨R_102g, R_102V⟩ := R_102K.1.2.1 R_102v R_102vi
      refine lv_istore (lv' := [(5, .int (nI (R_102ph R_102v))), (4, .int (nI (tr 11 n))), (3, .int (nI (tr 10 n))), (0, .ref (mh G)), (1, .int (nI n)), (2, .int (sgt e9))]) hx hb dX8_doing_391 hl (by decide) rfl (fun ls hl => ?_)
      refine lv_aload_n hx hb dX8_doing_393 rfl (lv_at hl 3 rfl) ?_
      refine m_get (v := .int (o_104 67)) hx hb htu wu_in hown hK hP 67 (by decide) (htu _ U_221) rfl rfl dX8_doing_394 ?_
      refine lv_if_eq (tgt := 424) hx hb dX8_doing_397 (by decide) (fun c_108 => absurd c_108 (fun h => h67 (R_102K.2.2.2.1.2.2.2.symm.trans h))) (fun c_108 => ?_)
      refine lv_aload_n hx hb dX8_doing_400 rfl (lv_at hl 3 rfl) ?_
      refine lv_iload hx hb dX8_doing_401 (lv_at hl 1 rfl) ?_
      refine lv_aload_n hx hb dX8_doing_403 rfl (lv_at hl 3 rfl) ?_
      refine lv_aload_n hx hb dX8_doing_404 rfl (lv_at hl 3 rfl) ?_
      refine m_get (v := .ref (md G 2)) hx hb htu wu_in hown hK hP 2 (by decide) (htu _ U_3) rfl rfl dX8_doing_405 ?_
      refine lv_iload_n hx hb dX8_doing_408 rfl (lv_at hl 4 rfl) ?_
      refine m_ald (j := n) (v := nI (tr 1 n)) hx hb hK hP 2 2 rfl (by omega) (by decide) ((congrFun (R_102K.2.2.2.2.1 2 (by decide)).2 _).trans (tn.2.2.1 (Or.inr (Or.inr (Or.inr (Or.inl hk))))).1) dX8_doing_409 ?_
      refine lv_iload hx hb dX8_doing_410 (lv_at hl 0 rfl) ?_
      refine lv_bipush (v := (-9)) hx hb dX8_doing_412 (by decide) ?_
      refine lv_iload_n hx hb dX8_doing_414 rfl (lv_at hl 5 rfl) ?_
      refine m_ci (m_runV (As := [.int (nI (tr 1 n)), .int (nI (R_102ph R_102v)), .int ((-9)), .int (sgt e9)]) (rest := [.int (nI (tr 11 n)), .ref (mh G)]) ⟨hx, hb, hml, hown, htu⟩ (m_env l G hDD o_104 F_105 (ne R_102) (nI (tr 1 n)) (nI (R_102ph R_102v)) ((-9)) (sgt e9) R_102K.1.1.2.1 ((by omega)) H.size) (cwV 4 htu gU_X8_env rfl rfl rfl (by decide +kernel) ⟨show 0 + 1 ≤ 3 * fu + 5 by omega, show 8 + (5 + 11) + 0 ≤ 80 * fu + 146 by omega⟩) hP hK rfl hl.1 rfl (lv_room (Nat.le_of_ble_eq_true rfl)) dX8_doing_415) hS (fun r_109 o_110 F_111 H locs hw_112 hP hS => ?_)
      try dsimp only at hw_112
      obtain ⟨m_113r, m_113u⟩ := hw_112
      obtain rfl : r_109 = sgt (ne R_102 + 1) := m_113r.trans sgt_s.symm
      have m_113K := YK.env (le := tr 1 n) (va := R_102v) (re := 0) (nx := e9) R_102K R_102W h6 m_113u rfl (fun _ => rfl) rfl rfl
      have m_113W : wmW tr N dp (wme R_102 (tr 1 n) R_102v 0 e9) := w_wme R_102W (hTm.2.2 n hn (Or.inr (Or.inr (Or.inr (Or.inl hk))))) (Nat.le_trans he R_102XX.2.1) (fun _ => R_102vi) (fun z => absurd rfl z)
      have m_113z : hlt (wme R_102 (tr 1 n) R_102v 0 e9) = 0 := R_102z
      have m_113n : ne (wme R_102 (tr 1 n) R_102v 0 e9) = ne R_102 + 1 := rfl
      have m_113b : bgn (wme R_102 (tr 1 n) R_102v 0 e9) = bgn R_102 := rfl
      have m_113v : wnv (wme R_102 (tr 1 n) R_102v 0 e9) = wnv R_102 := rfl
      have m_113E : eln (wme R_102 (tr 1 n) R_102v 0 e9) (ne R_102 + 1) = eln R_102 e9 + 1 := eln_new
      have m_113XX := R_102XX.tr (x_wme (s := R_102) (le := tr 1 n) (va := R_102v) (re := 0) (nx := e9))
      have R_114n0 : tr 11 n < N := hch1.1
      have R_114e0 : (ne R_102 + 1) ≤ ne ((wme R_102 (tr 1 n) R_102v 0 e9)) := (Nat.le_refl _)
      have R_114l0 : eln ((wme R_102 (tr 1 n) R_102v 0 e9)) ((ne R_102 + 1)) ≤ dp (tr 11 n) := (by rw [m_113E, R_102XX.eln he]; have := hch1.2; omega)
      have R_114b0 : bgn ((wme R_102 (tr 1 n) R_102v 0 e9)) ≤ al := by omega
      refine m_ci (m_runV (As := [.int (nI (tr 11 n)), .int (sgt (ne R_102 + 1))]) (rest := []) ⟨hx, hb, hml, hown, htu⟩ (ih l G hDD o_110 F_111 tr N dp mk al R_102vs R_102ph ((wme R_102 (tr 1 n) R_102v 0 e9)) (tr 11 n) ((ne R_102 + 1)) ((hT.keep (u := (o_110, F_111)) (fun k hk => m_113K.2.2.2.2.1 k (LW7 hk)))) ((fun q hq => ((congrFun (m_113K.2.2.2.2.1 2 (by decide)).2 _).trans (hmk q hq)))) hTm m_113K.1 m_113W m_113z ((fun h => h67 (m_113K.2.2.2.1.2.2.2.symm.trans h))) (⟨by omega, by omega, by omega, by omega⟩) R_114n0 R_114e0 R_114l0 ((m_113K.2.2.2.1.2.1.trans hd)) ((by omega)) H.size) (cwV 2 htu gU_X8_does rfl rfl rfl (by decide +kernel) ⟨show (3 * fu + 3) + 1 ≤ 3 * fu + 5 by omega, show 8 + (4 + 11) + (80 * fu + 100) ≤ 80 * fu + 146 by omega⟩) hP hK rfl hl.1 rfl (lv_room (Nat.le_of_ble_eq_true rfl)) dX8_doing_418) hS (fun r_115 o_116 F_117 H locs hw_118 hP hS => ?_)
      try dsimp only at hw_118
      refine lv_goto (tgt := 426) hx hb dX8_doing_421 (by decide) ?_
      exact m_iret (v := r_115) hx hb hr hK hP hS (by rw [wmd_7 hk, wmLet_2 R_102e R_102z]; exact YQ.tail m_113K hw_118 m_113XX.1 (by decide)) dX8_doing_426 hlocks
  rcases Decidable.em (nI (tr 0 n) = 8) with c_119 | c_119
  · skip
    refine lv_tableIn (tgt := 427) hx hb dX8_doing_29 (by rw [c_119]; decide) (by rw [c_119]; decide) (by rw [c_119]; rfl) (by decide) ?_
    have hk : tr 0 n = 8 := (nI_eq (b := 8) (by omega) (by omega)).mp c_119
    have tp := tn.2.2.2.2.2.2.1
    rw [hk] at tp
    have hp9 : prts (tr 0 n) (tr 2 n) = 2 := by rw [hk]; rfl
    have hch0 : tr 10 n < N ∧ dp n + 1 ≤ dp (tr 10 n) := (hTm.1 n hn).2.2 0 (by rw [hp9]; decide)
    have hch1 : tr 11 n < N ∧ dp n + 1 ≤ dp (tr 11 n) := (hTm.1 n hn).2.2 1 (by rw [hp9]; decide)
    obtain ⟨ea_, p0_, -⟩ := tp 0 (show 0 < 2 by decide)
    rw [show F 4 (6 * n) = nI (tr 10 n) from ea_] at hl
    obtain ⟨eb_, p1_, -⟩ := tp 1 (show 1 < 2 by decide)
    rw [show F 4 (6 * n + 1) = nI (tr 11 n) from eb_] at hl
    refine lv_aload_n hx hb dX8_doing_427 rfl (lv_at hl 2 rfl) ?_
    refine lv_iload hx hb dX8_doing_428 (lv_at hl 0 rfl) ?_
    refine lv_aload_n hx hb dX8_doing_430 rfl (lv_at hl 2 rfl) ?_
    refine lv_aload_n hx hb dX8_doing_431 rfl (lv_at hl 2 rfl) ?_
    refine m_get (v := .ref (md G 2)) hx hb htu wu_in hown hK hP 2 (by decide) (htu _ U_3) rfl rfl dX8_doing_432 ?_
    refine lv_iload_n hx hb dX8_doing_435 rfl (lv_at hl 3 rfl) ?_
    refine m_ald (j := n) (v := nI (tr 1 n)) hx hb hK hP 2 2 rfl (by omega) (by decide) ((congrFun ((YK.rf hR).2.2.2.2.1 2 (by decide)).2 _).trans (tn.2.2.1 (Or.inr (Or.inr (Or.inr (Or.inr hk))))).1) dX8_doing_436 ?_
    refine lv_bipush (v := (-9)) hx hb dX8_doing_437 (by decide) ?_
    refine lv_iload_n hx hb dX8_doing_439 rfl (lv_at hl 3 rfl) ?_
    refine lv_iload_n hx hb dX8_doing_440 rfl (lv_at hl 4 rfl) ?_
    refine m_ci (m_runV (As := [.int (nI (tr 1 n)), .int ((-9)), .int (nI n), .int (sgt e9)]) (rest := [.int (nI (tr 11 n)), .ref (mh G)]) ⟨hx, hb, hml, hown, htu⟩ (m_env l G hDD o F (ne ws) (nI (tr 1 n)) ((-9)) (nI n) (sgt e9) ((YK.rf hR).1.1.2.1) ((by omega)) H.size) (cwV 4 htu gU_X8_env rfl rfl rfl (by decide +kernel) ⟨show 0 + 1 ≤ 3 * fu + 5 by omega, show 8 + (5 + 11) + 0 ≤ 80 * fu + 146 by omega⟩) hP hK rfl hl.1 rfl (lv_room (Nat.le_of_ble_eq_true rfl)) dX8_doing_441) hS (fun r_120 o_121 F_122 H locs hw_123 hP hS => ?_)
    try dsimp only at hw_123
    obtain ⟨m_124r, m_124u⟩ := hw_123
    obtain rfl : r_120 = sgt (ne ws + 1) := m_124r.trans sgt_s.symm
    have m_124K := YK.env (le := tr 1 n) (va := 0) (re := n + 1) (nx := e9) (YK.rf hR) hWf h6 m_124u rfl (fun z => absurd z (by omega)) sgt_s.symm rfl
    have m_124W : wmW tr N dp (wme ws (tr 1 n) 0 (n + 1) e9) := w_wme hWf (hTm.2.2 n hn (Or.inr (Or.inr (Or.inr (Or.inr hk))))) he (fun z => absurd z (by omega)) (fun _ => ⟨by rw [Nat.add_sub_cancel]; exact hn, by rw [Nat.add_sub_cancel]; exact hk, by rw [Nat.add_sub_cancel]; exact hel⟩)
    have m_124z : hlt (wme ws (tr 1 n) 0 (n + 1) e9) = 0 := h0
    have m_124n : ne (wme ws (tr 1 n) 0 (n + 1) e9) = ne ws + 1 := rfl
    have m_124b : bgn (wme ws (tr 1 n) 0 (n + 1) e9) = bgn ws := rfl
    have m_124v : wnv (wme ws (tr 1 n) 0 (n + 1) e9) = wnv ws := rfl
    have m_124E : eln (wme ws (tr 1 n) 0 (n + 1) e9) (ne ws + 1) = eln ws e9 + 1 := eln_new
    have m_124XX := (Xt.rf (s := ws)).tr (x_wme (s := ws) (le := tr 1 n) (va := 0) (re := n + 1) (nx := e9))
    have R_125n0 : tr 11 n < N := hch1.1
    have R_125e0 : (ne ws + 1) ≤ ne ((wme ws (tr 1 n) 0 (n + 1) e9)) := (Nat.le_refl _)
    have R_125l0 : eln ((wme ws (tr 1 n) 0 (n + 1) e9)) ((ne ws + 1)) ≤ dp (tr 11 n) := (by rw [m_124E]; have := hch1.2; omega)
    have R_125b0 : bgn ((wme ws (tr 1 n) 0 (n + 1) e9)) ≤ al := by omega
    refine m_ci (m_runV (As := [.int (nI (tr 11 n)), .int (sgt (ne ws + 1))]) (rest := []) ⟨hx, hb, hml, hown, htu⟩ (ih l G hDD o_121 F_122 tr N dp mk al vs φ ((wme ws (tr 1 n) 0 (n + 1) e9)) (tr 11 n) ((ne ws + 1)) ((hT.keep (u := (o_121, F_122)) (fun k hk => m_124K.2.2.2.2.1 k (LW7 hk)))) ((fun q hq => ((congrFun (m_124K.2.2.2.2.1 2 (by decide)).2 _).trans (hmk q hq)))) hTm m_124K.1 m_124W m_124z ((fun h => h67 (m_124K.2.2.2.1.2.2.2.symm.trans h))) (⟨by omega, by omega, by omega, by omega⟩) R_125n0 R_125e0 R_125l0 ((m_124K.2.2.2.1.2.1.trans hd)) ((by omega)) H.size) (cwV 2 htu gU_X8_does rfl rfl rfl (by decide +kernel) ⟨show (3 * fu + 3) + 1 ≤ 3 * fu + 5 by omega, show 8 + (4 + 11) + (80 * fu + 100) ≤ 80 * fu + 146 by omega⟩) hP hK rfl hl.1 rfl (lv_room (Nat.le_of_ble_eq_true rfl)) dX8_doing_444) hS (fun r_126 o_127 F_128 H locs hw_129 hP hS => ?_)
    try dsimp only at hw_129
    exact m_iret (v := r_126) hx hb hr hK hP hS (by rw [wmd_8 hk, (rfl : wmRecc tr (wmx tr mk al fu) ws n e9 = (wmx tr mk al fu) (wme ws (tr 1 n) 0 (n + 1) e9) (tr 11 n) (ne ws + 1))]; exact YQ.tail m_124K hw_129 m_124XX.1 (by decide)) dX8_doing_447 hlocks
  rcases Decidable.em (nI (tr 0 n) = 9) with c_130 | c_130
  · skip
    refine lv_tableIn (tgt := 448) hx hb dX8_doing_29 (by rw [c_130]; decide) (by rw [c_130]; decide) (by rw [c_130]; rfl) (by decide) ?_
    have hk : tr 0 n = 9 := (nI_eq (b := 9) (by omega) (by omega)).mp c_130
    have tp := tn.2.2.2.2.2.2.1
    rw [hk] at tp
    have hp9 : prts (tr 0 n) (tr 2 n) = 3 := by rw [hk]; rfl
    have hch0 : tr 10 n < N ∧ dp n + 1 ≤ dp (tr 10 n) := (hTm.1 n hn).2.2 0 (by rw [hp9]; decide)
    have hch1 : tr 11 n < N ∧ dp n + 1 ≤ dp (tr 11 n) := (hTm.1 n hn).2.2 1 (by rw [hp9]; decide)
    have hch2 : tr 12 n < N ∧ dp n + 1 ≤ dp (tr 12 n) := (hTm.1 n hn).2.2 2 (by rw [hp9]; decide)
    obtain ⟨ea_, p0_, -⟩ := tp 0 (show 0 < 3 by decide)
    rw [show F 4 (6 * n) = nI (tr 10 n) from ea_] at hl
    obtain ⟨eb_, p1_, -⟩ := tp 1 (show 1 < 3 by decide)
    rw [show F 4 (6 * n + 1) = nI (tr 11 n) from eb_] at hl
    obtain ⟨ec_, p2_, -⟩ := tp 2 (show 2 < 3 by decide)
    refine lv_aload_n hx hb dX8_doing_448 rfl (lv_at hl 2 rfl) ?_
    refine lv_iload_n hx hb dX8_doing_449 rfl (lv_at hl 1 rfl) ?_
    refine lv_iload_n hx hb dX8_doing_450 rfl (lv_at hl 4 rfl) ?_
    have R_131n0 : tr 10 n < N := hch0.1
    have R_131e0 : e9 ≤ ne ws := (Nat.le_trans he (Xt.rf (s := ws)).2.1)
    have R_131l0 : eln ws e9 ≤ dp (tr 10 n) := (by rw [(Xt.rf (s := ws)).eln he]; have := hch0.2; omega)
    have R_131b0 : bgn ws ≤ al := by omega
    refine m_ci (m_runV (As := [.int (nI (tr 10 n)), .int (sgt e9)]) (rest := []) ⟨hx, hb, hml, hown, htu⟩ (ih l G hDD o F tr N dp mk al vs φ ws (tr 10 n) e9 ((hT.keep (u := (o, F)) (fun k hk => (YK.rf hR).2.2.2.2.1 k (LW7 hk)))) ((fun q hq => ((congrFun ((YK.rf hR).2.2.2.2.1 2 (by decide)).2 _).trans (hmk q hq)))) hTm ((YK.rf hR).1) hWf h0 ((fun h => h67 ((YK.rf hR).2.2.2.1.2.2.2.symm.trans h))) (⟨by omega, by omega, by omega, by omega⟩) R_131n0 R_131e0 R_131l0 (((YK.rf hR).2.2.2.1.2.1.trans hd)) ((by omega)) H.size) (cwV 2 htu gU_X8_does rfl rfl rfl (by decide +kernel) ⟨show (3 * fu + 3) + 1 ≤ 3 * fu + 5 by omega, show 8 + (4 + 11) + (80 * fu + 100) ≤ 80 * fu + 146 by omega⟩) hP hK rfl hl.1 rfl (lv_room (Nat.le_of_ble_eq_true rfl)) dX8_doing_451) hS (fun r_132 o_133 F_134 H locs hw_135 hP hS => ?_)
    try dsimp only at hw_135
    obtain ⟨R_131, R_131v, R_131e⟩ : ∃ a b, wmx tr mk al fu ws (tr 10 n) e9 = (a, b) := ⟨_, _, rfl⟩
    have R_131p := wmx_ok hTm mk al fu ws (tr 10 n) e9 hWf h0 R_131b0 R_131n0 R_131e0 R_131l0
    rw [R_131e] at hw_135 R_131p
    obtain ⟨R_131W, R_131X, R_131c, R_131i⟩ := R_131p
    obtain ⟨R_131c1, R_131c2, R_131c3, R_131c4⟩ := R_131c
    dsimp only at R_131W R_131X R_131c1 R_131c2 R_131c3 R_131c4 R_131i
    rcases hw_135 with R_131h | ⟨R_131z, R_131vs, R_131ph, R_131k, R_131r⟩
    · skip
      dsimp only at R_131h
      refine lv_istore (lv' := [(5, .int r_132), (4, .int (nI (tr 11 n))), (3, .int (nI (tr 10 n))), (0, .ref (mh G)), (1, .int (nI n)), (2, .int (sgt e9))]) hx hb dX8_doing_454 hl (by decide) rfl (fun ls hl => ?_)
      refine lv_aload_n hx hb dX8_doing_456 rfl (lv_at hl 3 rfl) ?_
      refine m_get (v := .int (o_133 67)) hx hb htu wu_in hown hK hP 67 (by decide) (htu _ U_221) rfl rfl dX8_doing_457 ?_
      refine lv_if_ne (tgt := 466) hx hb dX8_doing_460 (by decide) (fun c_136 => absurd R_131h.2.1 c_136) (fun c_136 => ?_)
      refine lv_bipush (v := (-9)) hx hb dX8_doing_463 (by decide) ?_
      exact m_iret (v := (-9)) hx hb hr hK hP hS (by rw [wmd_9 hk, wmPick_1 R_131e R_131h.1]; exact YQ.stop (YK.rf hR) R_131h) dX8_doing_465 hlocks
    · skip
      dsimp only at R_131z R_131k R_131r
      subst R_131r
      have R_131K := YK.trans (YK.rf hR) R_131k (Xt.rf (s := ws)).1
      have R_131XX := (Xt.rf (s := ws)).tr R_131X
      have R_131vi := R_131i R_131z
      obtain ⟨R_131y1, R_131y2⟩ := R_131K.2.1
      obtain ⟨R_131g, R_131V⟩ := R_131K.1.2.1 R_131v R_131vi
      refine lv_istore (lv' := [(5, .int (nI (R_131ph R_131v))), (4, .int (nI (tr 11 n))), (3, .int (nI (tr 10 n))), (0, .ref (mh G)), (1, .int (nI n)), (2, .int (sgt e9))]) hx hb dX8_doing_454 hl (by decide) rfl (fun ls hl => ?_)
      refine lv_aload_n hx hb dX8_doing_456 rfl (lv_at hl 3 rfl) ?_
      refine m_get (v := .int (o_133 67)) hx hb htu wu_in hown hK hP 67 (by decide) (htu _ U_221) rfl rfl dX8_doing_457 ?_
      refine lv_if_ne (tgt := 466) hx hb dX8_doing_460 (by decide) (fun c_137 => ?_) (fun c_137 => absurd c_137 (fun h => h67 (R_131K.2.2.2.1.2.2.2.symm.trans h)))
      refine lv_aload_n hx hb dX8_doing_466 rfl (lv_at hl 3 rfl) ?_
      refine m_get (v := .ref (md G 52)) hx hb htu wu_in hown hK hP 52 (by decide) (htu _ U_237) rfl rfl dX8_doing_467 ?_
      refine lv_iload hx hb dX8_doing_470 (lv_at hl 0 rfl) ?_
      refine m_ald (j := R_131ph R_131v) (v := nI (vso R_131 R_131v)) hx hb hK hP 31 52 rfl (by omega) (by decide) R_131V.1 dX8_doing_472 ?_
      refine lv_iconst (v := 1) hx hb dX8_doing_473 (by decide) ?_
      refine lv_icmp_eq (tgt := 484) hx hb dX8_doing_474 (by decide) (fun c_138 => ?_) (fun c_138 => ?_)
      · skip
        have hv1 : vso R_131 R_131v = 1 := (nI_eq (b := 1) (by have := (R_131W.1 _ R_131vi).1; omega) (by omega)).mp c_138
        refine lv_aload_n hx hb dX8_doing_484 rfl (lv_at hl 3 rfl) ?_
        refine lv_aload_n hx hb dX8_doing_485 rfl (lv_at hl 3 rfl) ?_
        refine m_get (v := .ref (md G 53)) hx hb htu wu_in hown hK hP 53 (by decide) (htu _ U_238) rfl rfl dX8_doing_486 ?_
        refine lv_iload hx hb dX8_doing_489 (lv_at hl 0 rfl) ?_
        refine m_ald (j := R_131ph R_131v) (v := R_131.2.1 R_131v) hx hb hK hP 32 53 rfl (by omega) (by decide) (R_131V.2.1 (by omega)) dX8_doing_491 ?_
        refine lv_iconst (v := 1) hx hb dX8_doing_492 (by decide) ?_
        refine lv_icmp_ne (tgt := 501) hx hb dX8_doing_493 (by decide) (fun c_139 => ?_) (fun c_139 => ?_)
        · skip
          refine lv_aload_n hx hb dX8_doing_501 rfl (lv_at hl 3 rfl) ?_
          refine m_get (v := .ref (md G 4)) hx hb htu wu_in hown hK hP 4 (by decide) (htu _ U_6) rfl rfl dX8_doing_502 ?_
          refine lv_bipush (v := 6) hx hb dX8_doing_505 (by decide) ?_
          refine lv_iload_n hx hb dX8_doing_507 rfl (lv_at hl 4 rfl) ?_
          refine lv_imul hx hb dX8_doing_508 ?_
          refine m_top (y := nI (6 * n)) (pk_mul 6 n) ?_
          refine lv_iconst (v := 2) hx hb dX8_doing_509 (by decide) ?_
          refine lv_iadd hx hb dX8_doing_510 ?_
          refine m_top (y := nI (6 * n + 2)) (nI_add (6 * n) 2) ?_
          refine m_ald (j := 6 * n + 2) (v := nI (tr 12 n)) hx hb hK hP 4 4 rfl (by omega) (by decide) ((congrFun (R_131K.2.2.2.2.1 4 (by decide)).2 _).trans ec_) dX8_doing_511 ?_
          refine lv_iload_n hx hb dX8_doing_512 rfl (lv_at hl 5 rfl) ?_
          have R_140n0 : tr 12 n < N := hch2.1
          have R_140e0 : e9 ≤ ne R_131 := (Nat.le_trans he R_131XX.2.1)
          have R_140l0 : eln R_131 e9 ≤ dp (tr 12 n) := (by rw [R_131XX.eln he]; have := hch2.2; omega)
          have R_140b0 : bgn R_131 ≤ al := by omega
          refine m_ci (m_runV (As := [.int (nI (tr 12 n)), .int (sgt e9)]) (rest := []) ⟨hx, hb, hml, hown, htu⟩ (ih l G hDD o_133 F_134 tr N dp mk al R_131vs R_131ph R_131 (tr 12 n) e9 ((hT.keep (u := (o_133, F_134)) (fun k hk => R_131K.2.2.2.2.1 k (LW7 hk)))) ((fun q hq => ((congrFun (R_131K.2.2.2.2.1 2 (by decide)).2 _).trans (hmk q hq)))) hTm R_131K.1 R_131W R_131z ((fun h => h67 (R_131K.2.2.2.1.2.2.2.symm.trans h))) (⟨by omega, by omega, by omega, by omega⟩) R_140n0 R_140e0 R_140l0 ((R_131K.2.2.2.1.2.1.trans hd)) ((by omega)) H.size) (cwV 2 htu gU_X8_does rfl rfl rfl (by decide +kernel) ⟨show (3 * fu + 3) + 1 ≤ 3 * fu + 5 by omega, show 8 + (4 + 11) + (80 * fu + 100) ≤ 80 * fu + 146 by omega⟩) hP hK rfl hl.1 rfl (lv_room (Nat.le_of_ble_eq_true rfl)) dX8_doing_513) hS (fun r_141 o_142 F_143 H locs hw_144 hP hS => ?_)
          try dsimp only at hw_144
          exact m_iret (v := r_141) hx hb hr hK hP hS (by rw [wmd_9 hk, wmPick_2 R_131e R_131z, show wmPick2 tr (wmx tr mk al fu) R_131 n e9 R_131v = (wmx tr mk al fu) R_131 (tr 12 n) e9 from by (unfold wmPick2; rw [if_pos hv1, if_neg c_139])]; exact YQ.tail R_131K hw_144 R_131XX.1 (by decide)) dX8_doing_516 hlocks
        · skip
          refine lv_iload hx hb dX8_doing_496 (lv_at hl 1 rfl) ?_
          refine lv_goto (tgt := 512) hx hb dX8_doing_498 (by decide) ?_
          refine lv_iload_n hx hb dX8_doing_512 rfl (lv_at hl 5 rfl) ?_
          have R_145n0 : tr 11 n < N := hch1.1
          have R_145e0 : e9 ≤ ne R_131 := (Nat.le_trans he R_131XX.2.1)
          have R_145l0 : eln R_131 e9 ≤ dp (tr 11 n) := (by rw [R_131XX.eln he]; have := hch1.2; omega)
          have R_145b0 : bgn R_131 ≤ al := by omega
          refine m_ci (m_runV (As := [.int (nI (tr 11 n)), .int (sgt e9)]) (rest := []) ⟨hx, hb, hml, hown, htu⟩ (ih l G hDD o_133 F_134 tr N dp mk al R_131vs R_131ph R_131 (tr 11 n) e9 ((hT.keep (u := (o_133, F_134)) (fun k hk => R_131K.2.2.2.2.1 k (LW7 hk)))) ((fun q hq => ((congrFun (R_131K.2.2.2.2.1 2 (by decide)).2 _).trans (hmk q hq)))) hTm R_131K.1 R_131W R_131z ((fun h => h67 (R_131K.2.2.2.1.2.2.2.symm.trans h))) (⟨by omega, by omega, by omega, by omega⟩) R_145n0 R_145e0 R_145l0 ((R_131K.2.2.2.1.2.1.trans hd)) ((by omega)) H.size) (cwV 2 htu gU_X8_does rfl rfl rfl (by decide +kernel) ⟨show (3 * fu + 3) + 1 ≤ 3 * fu + 5 by omega, show 8 + (4 + 11) + (80 * fu + 100) ≤ 80 * fu + 146 by omega⟩) hP hK rfl hl.1 rfl (lv_room (Nat.le_of_ble_eq_true rfl)) dX8_doing_513) hS (fun r_146 o_147 F_148 H locs hw_149 hP hS => ?_)
          try dsimp only at hw_149
          exact m_iret (v := r_146) hx hb hr hK hP hS (by rw [wmd_9 hk, wmPick_2 R_131e R_131z, show wmPick2 tr (wmx tr mk al fu) R_131 n e9 R_131v = (wmx tr mk al fu) R_131 (tr 11 n) e9 from by (unfold wmPick2; rw [if_pos hv1, if_pos c_139])]; exact YQ.tail R_131K hw_149 R_131XX.1 (by decide)) dX8_doing_516 hlocks
      · skip
        refine lv_aload_n hx hb dX8_doing_477 rfl (lv_at hl 3 rfl) ?_
        refine lv_iconst (v := 1) hx hb dX8_doing_478 (by decide) ?_
        refine lv_iload_n hx hb dX8_doing_479 rfl (lv_at hl 4 rfl) ?_
        refine m_ci (m_runV (As := [.int 1, .int (nI n)]) (rest := []) ⟨hx, hb, hml, hown, htu⟩ (m_halts l G hDD o_133 F_134 1 (nI n) H.size) (cwV 2 htu gU_X8_halts rfl rfl rfl (by decide +kernel) ⟨show 0 + 1 ≤ 3 * fu + 5 by omega, show 8 + (3 + 11) + 0 ≤ 80 * fu + 146 by omega⟩) hP hK rfl hl.1 rfl (lv_room (Nat.le_of_ble_eq_true rfl)) dX8_doing_480) hS (fun r_150 o_151 F_152 H locs hw_153 hP hS => ?_)
        try dsimp only at hw_153
        exact m_iret (v := r_150) hx hb hr hK hP hS (by rw [wmd_9 hk, wmPick_2 R_131e R_131z, show wmPick2 tr (wmx tr mk al fu) R_131 n e9 R_131v = wmh R_131 1 n from if_neg (fun h => c_138 (by rw [h]; rfl))]; exact YK.halt R_131K (fun h => h67 (R_131K.2.2.2.1.2.2.2.symm.trans h)) (why := 1) (n := n) (by decide) rfl rfl hw_153.2) dX8_doing_483 hlocks
  have hout : (nI (tr 0 n)).toInt < 0 ∨ 9 < (nI (tr 0 n)).toInt := tb_out (nI (tr 0 n)) 0 9 (fun z h1 h2 e => by
    rcases (show z = 0 ∨ z = 1 ∨ z = 2 ∨ z = 3 ∨ z = 4 ∨ z = 5 ∨ z = 6 ∨ z = 7 ∨ z = 8 ∨ z = 9 by omega) with rfl | rfl | rfl | rfl | rfl | rfl | rfl | rfl | rfl | rfl
    · exact c_1 (Int32.toInt_inj.mp (e.trans (by decide)))
    · exact c_7 (Int32.toInt_inj.mp (e.trans (by decide)))
    · exact c_13 (Int32.toInt_inj.mp (e.trans (by decide)))
    · exact c_18 (Int32.toInt_inj.mp (e.trans (by decide)))
    · exact c_24 (Int32.toInt_inj.mp (e.trans (by decide)))
    · exact c_58 (Int32.toInt_inj.mp (e.trans (by decide)))
    · exact c_73 (Int32.toInt_inj.mp (e.trans (by decide)))
    · exact c_101 (Int32.toInt_inj.mp (e.trans (by decide)))
    · exact c_119 (Int32.toInt_inj.mp (e.trans (by decide)))
    · exact c_130 (Int32.toInt_inj.mp (e.trans (by decide))))
  refine lv_tableOut (tgt := 517) hx hb dX8_doing_29 hout (by decide) ?_
  have s0n : tr 0 n ≠ 0 := fun h => c_1 (by rw [h]; rfl)
  have s1n : tr 0 n ≠ 1 := fun h => c_7 (by rw [h]; rfl)
  have s2n : tr 0 n ≠ 2 := fun h => c_13 (by rw [h]; rfl)
  have s3n : tr 0 n ≠ 3 := fun h => c_18 (by rw [h]; rfl)
  have s4n : tr 0 n ≠ 4 := fun h => c_24 (by rw [h]; rfl)
  have s5n : tr 0 n ≠ 5 := fun h => c_58 (by rw [h]; rfl)
  have s6n : tr 0 n ≠ 6 := fun h => c_73 (by rw [h]; rfl)
  have s7n : tr 0 n ≠ 7 := fun h => c_101 (by rw [h]; rfl)
  have s8n : tr 0 n ≠ 8 := fun h => c_119 (by rw [h]; rfl)
  have s9n : tr 0 n ≠ 9 := fun h => c_130 (by rw [h]; rfl)
  have hk : tr 0 n = 10 ∨ tr 0 n = 11 := by omega
  have hp9 : prts (tr 0 n) (tr 2 n) = 2 := hk.elim prts_of.2.2.2.2.2.2.2.1 prts_of.2.2.2.2.2.2.2.2
  have tp := tn.2.2.2.2.2.2.1
  rw [hp9] at tp
  have hch0 : tr 10 n < N ∧ dp n + 1 ≤ dp (tr 10 n) := (hTm.1 n hn).2.2 0 (by rw [hp9]; decide)
  have hch1 : tr 11 n < N ∧ dp n + 1 ≤ dp (tr 11 n) := (hTm.1 n hn).2.2 1 (by rw [hp9]; decide)
  obtain ⟨ea_, p0_, -⟩ := tp 0 (show 0 < 2 by decide)
  rw [show F 4 (6 * n) = nI (tr 10 n) from ea_] at hl
  obtain ⟨eb_, p1_, -⟩ := tp 1 (show 1 < 2 by decide)
  rw [show F 4 (6 * n + 1) = nI (tr 11 n) from eb_] at hl
  refine lv_aload_n hx hb dX8_doing_517 rfl (lv_at hl 2 rfl) ?_
  refine lv_iload_n hx hb dX8_doing_518 rfl (lv_at hl 1 rfl) ?_
  refine lv_iload_n hx hb dX8_doing_519 rfl (lv_at hl 4 rfl) ?_
  have R_154n0 : tr 10 n < N := hch0.1
  have R_154e0 : e9 ≤ ne ws := (Nat.le_trans he (Xt.rf (s := ws)).2.1)
  have R_154l0 : eln ws e9 ≤ dp (tr 10 n) := (by rw [(Xt.rf (s := ws)).eln he]; have := hch0.2; omega)
  have R_154b0 : bgn ws ≤ al := by omega
  refine m_ci (m_runV (As := [.int (nI (tr 10 n)), .int (sgt e9)]) (rest := []) ⟨hx, hb, hml, hown, htu⟩ (ih l G hDD o F tr N dp mk al vs φ ws (tr 10 n) e9 ((hT.keep (u := (o, F)) (fun k hk => (YK.rf hR).2.2.2.2.1 k (LW7 hk)))) ((fun q hq => ((congrFun ((YK.rf hR).2.2.2.2.1 2 (by decide)).2 _).trans (hmk q hq)))) hTm ((YK.rf hR).1) hWf h0 ((fun h => h67 ((YK.rf hR).2.2.2.1.2.2.2.symm.trans h))) (⟨by omega, by omega, by omega, by omega⟩) R_154n0 R_154e0 R_154l0 (((YK.rf hR).2.2.2.1.2.1.trans hd)) ((by omega)) H.size) (cwV 2 htu gU_X8_does rfl rfl rfl (by decide +kernel) ⟨show (3 * fu + 3) + 1 ≤ 3 * fu + 5 by omega, show 8 + (4 + 11) + (80 * fu + 100) ≤ 80 * fu + 146 by omega⟩) hP hK rfl hl.1 rfl (lv_room (Nat.le_of_ble_eq_true rfl)) dX8_doing_520) hS (fun r_155 o_156 F_157 H locs hw_158 hP hS => ?_)
  try dsimp only at hw_158
  obtain ⟨R_154, R_154v, R_154e⟩ : ∃ a b, wmx tr mk al fu ws (tr 10 n) e9 = (a, b) := ⟨_, _, rfl⟩
  have R_154p := wmx_ok hTm mk al fu ws (tr 10 n) e9 hWf h0 R_154b0 R_154n0 R_154e0 R_154l0
  rw [R_154e] at hw_158 R_154p
  obtain ⟨R_154W, R_154X, R_154c, R_154i⟩ := R_154p
  obtain ⟨R_154c1, R_154c2, R_154c3, R_154c4⟩ := R_154c
  dsimp only at R_154W R_154X R_154c1 R_154c2 R_154c3 R_154c4 R_154i
  rcases hw_158 with R_154h | ⟨R_154z, R_154vs, R_154ph, R_154k, R_154r⟩
  · skip
    dsimp only at R_154h
    refine lv_istore (lv' := [(5, .int r_155), (4, .int (nI (tr 11 n))), (3, .int (nI (tr 10 n))), (0, .ref (mh G)), (1, .int (nI n)), (2, .int (sgt e9))]) hx hb dX8_doing_523 hl (by decide) rfl (fun ls hl => ?_)
    refine lv_aload_n hx hb dX8_doing_525 rfl (lv_at hl 3 rfl) ?_
    refine lv_iload hx hb dX8_doing_526 (lv_at hl 1 rfl) ?_
    refine lv_iload_n hx hb dX8_doing_528 rfl (lv_at hl 5 rfl) ?_
    refine m_ci (m_runV (As := [.int (nI (tr 11 n)), .int (sgt e9)]) (rest := []) ⟨hx, hb, hml, hown, htu⟩ (xm_does_h l G hDD o_156 F_157 (nI (tr 11 n)) (sgt e9) R_154h.2.1 H.size) (cwV 2 htu gU_X8_does rfl rfl rfl (by decide +kernel) ⟨show 0 + 1 ≤ 3 * fu + 5 by omega, show 8 + (4 + 11) + 0 ≤ 80 * fu + 146 by omega⟩) hP hK rfl hl.1 rfl (lv_room (Nat.le_of_ble_eq_true rfl)) dX8_doing_529) hS (fun r_159 o_160 F_161 H locs hw_162 hP hS => ?_)
    try dsimp only at hw_162
    obtain ⟨m_163r, m_163u⟩ := hw_162
    subst m_163r
    obtain ⟨h91, h92⟩ := Prod.mk.inj m_163u
    have h91 := h91.symm
    have h92 := h92.symm
    subst h91
    subst h92
    refine lv_istore (lv' := [(6, .int ((-9))), (5, .int r_155), (4, .int (nI (tr 11 n))), (3, .int (nI (tr 10 n))), (0, .ref (mh G)), (1, .int (nI n)), (2, .int (sgt e9))]) hx hb dX8_doing_532 hl (by decide) rfl (fun ls hl => ?_)
    refine lv_aload_n hx hb dX8_doing_534 rfl (lv_at hl 4 rfl) ?_
    refine m_get (v := .int (o_156 67)) hx hb htu wu_in hown hK hP 67 (by decide) (htu _ U_221) rfl rfl dX8_doing_535 ?_
    refine lv_if_ne (tgt := 544) hx hb dX8_doing_538 (by decide) (fun c_164 => absurd R_154h.2.1 c_164) (fun c_164 => ?_)
    refine lv_bipush (v := (-9)) hx hb dX8_doing_541 (by decide) ?_
    exact m_iret (v := (-9)) hx hb hr hK hP hS (by rw [wmd_10 hk, wmTwo_1 R_154e R_154h.1]; exact YQ.stop (YK.rf hR) R_154h) dX8_doing_543 hlocks
  · skip
    dsimp only at R_154z R_154k R_154r
    subst R_154r
    have R_154K := YK.trans (YK.rf hR) R_154k (Xt.rf (s := ws)).1
    have R_154XX := (Xt.rf (s := ws)).tr R_154X
    have R_154vi := R_154i R_154z
    obtain ⟨R_154y1, R_154y2⟩ := R_154K.2.1
    obtain ⟨R_154g, R_154V⟩ := R_154K.1.2.1 R_154v R_154vi
    refine lv_istore (lv' := [(5, .int (nI (R_154ph R_154v))), (4, .int (nI (tr 11 n))), (3, .int (nI (tr 10 n))), (0, .ref (mh G)), (1, .int (nI n)), (2, .int (sgt e9))]) hx hb dX8_doing_523 hl (by decide) rfl (fun ls hl => ?_)
    refine lv_aload_n hx hb dX8_doing_525 rfl (lv_at hl 3 rfl) ?_
    refine lv_iload hx hb dX8_doing_526 (lv_at hl 1 rfl) ?_
    refine lv_iload_n hx hb dX8_doing_528 rfl (lv_at hl 5 rfl) ?_
    have R_165n0 : tr 11 n < N := hch1.1
    have R_165e0 : e9 ≤ ne R_154 := (Nat.le_trans he R_154XX.2.1)
    have R_165l0 : eln R_154 e9 ≤ dp (tr 11 n) := (by rw [R_154XX.eln he]; have := hch1.2; omega)
    have R_165b0 : bgn R_154 ≤ al := by omega
    refine m_ci (m_runV (As := [.int (nI (tr 11 n)), .int (sgt e9)]) (rest := []) ⟨hx, hb, hml, hown, htu⟩ (ih l G hDD o_156 F_157 tr N dp mk al R_154vs R_154ph R_154 (tr 11 n) e9 ((hT.keep (u := (o_156, F_157)) (fun k hk => R_154K.2.2.2.2.1 k (LW7 hk)))) ((fun q hq => ((congrFun (R_154K.2.2.2.2.1 2 (by decide)).2 _).trans (hmk q hq)))) hTm R_154K.1 R_154W R_154z ((fun h => h67 (R_154K.2.2.2.1.2.2.2.symm.trans h))) (⟨by omega, by omega, by omega, by omega⟩) R_165n0 R_165e0 R_165l0 ((R_154K.2.2.2.1.2.1.trans hd)) ((by omega)) H.size) (cwV 2 htu gU_X8_does rfl rfl rfl (by decide +kernel) ⟨show (3 * fu + 3) + 1 ≤ 3 * fu + 5 by omega, show 8 + (4 + 11) + (80 * fu + 100) ≤ 80 * fu + 146 by omega⟩) hP hK rfl hl.1 rfl (lv_room (Nat.le_of_ble_eq_true rfl)) dX8_doing_529) hS (fun r_166 o_167 F_168 H locs hw_169 hP hS => ?_)
    try dsimp only at hw_169
    obtain ⟨R_165, R_165v, R_165e⟩ : ∃ a b, wmx tr mk al fu R_154 (tr 11 n) e9 = (a, b) := ⟨_, _, rfl⟩
    have R_165p := wmx_ok hTm mk al fu R_154 (tr 11 n) e9 R_154W R_154z R_165b0 R_165n0 R_165e0 R_165l0
    rw [R_165e] at hw_169 R_165p
    obtain ⟨R_165W, R_165X, R_165c, R_165i⟩ := R_165p
    obtain ⟨R_165c1, R_165c2, R_165c3, R_165c4⟩ := R_165c
    dsimp only at R_165W R_165X R_165c1 R_165c2 R_165c3 R_165c4 R_165i
    rcases hw_169 with R_165h | ⟨R_165z, R_165vs, R_165ph, R_165k, R_165r⟩
    · skip
      dsimp only at R_165h
      refine lv_istore (lv' := [(6, .int r_166), (5, .int (nI (R_154ph R_154v))), (4, .int (nI (tr 11 n))), (3, .int (nI (tr 10 n))), (0, .ref (mh G)), (1, .int (nI n)), (2, .int (sgt e9))]) hx hb dX8_doing_532 hl (by decide) rfl (fun ls hl => ?_)
      refine lv_aload_n hx hb dX8_doing_534 rfl (lv_at hl 4 rfl) ?_
      refine m_get (v := .int (o_167 67)) hx hb htu wu_in hown hK hP 67 (by decide) (htu _ U_221) rfl rfl dX8_doing_535 ?_
      refine lv_if_ne (tgt := 544) hx hb dX8_doing_538 (by decide) (fun c_170 => absurd R_165h.2.1 c_170) (fun c_170 => ?_)
      refine lv_bipush (v := (-9)) hx hb dX8_doing_541 (by decide) ?_
      exact m_iret (v := (-9)) hx hb hr hK hP hS (by rw [wmd_10 hk, wmTwo_2 R_154e R_154z R_165e R_165h.1]; exact YQ.stop R_154K R_165h) dX8_doing_543 hlocks
    · skip
      dsimp only at R_165z R_165k R_165r
      subst R_165r
      have R_165K := YK.trans R_154K R_165k R_154XX.1
      have R_165XX := R_154XX.tr R_165X
      have R_165vi := R_165i R_165z
      obtain ⟨R_165y1, R_165y2⟩ := R_165K.2.1
      obtain ⟨R_165g, R_165V⟩ := R_165K.1.2.1 R_165v R_165vi
      refine lv_istore (lv' := [(6, .int (nI (R_165ph R_165v))), (5, .int (nI (R_154ph R_154v))), (4, .int (nI (tr 11 n))), (3, .int (nI (tr 10 n))), (0, .ref (mh G)), (1, .int (nI n)), (2, .int (sgt e9))]) hx hb dX8_doing_532 hl (by decide) rfl (fun ls hl => ?_)
      refine lv_aload_n hx hb dX8_doing_534 rfl (lv_at hl 4 rfl) ?_
      refine m_get (v := .int (o_167 67)) hx hb htu wu_in hown hK hP 67 (by decide) (htu _ U_221) rfl rfl dX8_doing_535 ?_
      refine lv_if_ne (tgt := 544) hx hb dX8_doing_538 (by decide) (fun c_171 => ?_) (fun c_171 => absurd c_171 (fun h => h67 (R_165K.2.2.2.1.2.2.2.symm.trans h)))
      have hA : R_154v < wnv R_165 := Nat.lt_of_lt_of_le R_154vi R_165X.1
      have eA : R_165ph R_154v = R_154ph R_154v := R_165k.2.2.1.1 _ R_154vi
      rw [← eA] at hl
      obtain ⟨hAg, hAV⟩ := R_165K.1.2.1 R_154v hA
      refine lv_aload_n hx hb dX8_doing_544 rfl (lv_at hl 4 rfl) ?_
      refine m_get (v := .ref (md G 52)) hx hb htu wu_in hown hK hP 52 (by decide) (htu _ U_237) rfl rfl dX8_doing_545 ?_
      refine lv_iload hx hb dX8_doing_548 (lv_at hl 1 rfl) ?_
      refine m_ald (j := R_165ph R_154v) (v := nI (vso R_165 R_154v)) hx hb hK hP 31 52 rfl (by omega) (by decide) hAV.1 dX8_doing_550 ?_
      refine lv_if_ne (tgt := 564) hx hb dX8_doing_551 (by decide) (fun c_172 => ?_) (fun c_172 => ?_)
      · skip
        refine lv_aload_n hx hb dX8_doing_564 rfl (lv_at hl 4 rfl) ?_
        refine lv_iconst (v := 1) hx hb dX8_doing_565 (by decide) ?_
        refine lv_iload_n hx hb dX8_doing_566 rfl (lv_at hl 5 rfl) ?_
        refine m_ci (m_runV (As := [.int 1, .int (nI n)]) (rest := []) ⟨hx, hb, hml, hown, htu⟩ (m_halts l G hDD o_167 F_168 1 (nI n) H.size) (cwV 2 htu gU_X8_halts rfl rfl rfl (by decide +kernel) ⟨show 0 + 1 ≤ 3 * fu + 5 by omega, show 8 + (3 + 11) + 0 ≤ 80 * fu + 146 by omega⟩) hP hK rfl hl.1 rfl (lv_room (Nat.le_of_ble_eq_true rfl)) dX8_doing_567) hS (fun r_173 o_174 F_175 H locs hw_176 hP hS => ?_)
        try dsimp only at hw_176
        exact m_iret (v := r_173) hx hb hr hK hP hS (by rw [wmd_10 hk, wmTwo_3 R_154e R_154z R_165e R_165z, show wmTwo3 tr R_165 n R_154v R_165v = wmh R_165 1 n from if_neg (fun h => c_172 (by rw [h.1]; rfl))]; exact YK.halt R_165K (fun h => h67 (R_165K.2.2.2.1.2.2.2.symm.trans h)) (why := 1) (n := n) (by decide) rfl rfl hw_176.2) dX8_doing_570 hlocks
      · skip
        refine lv_aload_n hx hb dX8_doing_554 rfl (lv_at hl 4 rfl) ?_
        refine m_get (v := .ref (md G 52)) hx hb htu wu_in hown hK hP 52 (by decide) (htu _ U_237) rfl rfl dX8_doing_555 ?_
        refine lv_iload hx hb dX8_doing_558 (lv_at hl 0 rfl) ?_
        refine m_ald (j := R_165ph R_165v) (v := nI (vso R_165 R_165v)) hx hb hK hP 31 52 rfl (by omega) (by decide) R_165V.1 dX8_doing_560 ?_
        refine lv_if_eq (tgt := 571) hx hb dX8_doing_561 (by decide) (fun c_177 => ?_) (fun c_177 => ?_)
        · skip
          have hv0 : vso R_165 R_154v = 0 := (nI_eq (b := 0) (by have := (R_165W.1 _ hA).1; omega) (by omega)).mp c_172
          have hv1 : vso R_165 R_165v = 0 := (nI_eq (b := 0) (by have := (R_165W.1 _ R_165vi).1; omega) (by omega)).mp c_177
          refine lv_aload_n hx hb dX8_doing_571 rfl (lv_at hl 4 rfl) ?_
          refine m_get (v := .ref (md G 1)) hx hb htu wu_in hown hK hP 1 (by decide) (htu _ U_2) rfl rfl dX8_doing_572 ?_
          refine lv_iload_n hx hb dX8_doing_575 rfl (lv_at hl 5 rfl) ?_
          refine m_ald (j := n) (v := nI (tr 0 n)) hx hb hK hP 1 1 rfl (by omega) (by decide) ((congrFun (R_165K.2.2.2.2.1 1 (by decide)).2 _).trans tn.1) dX8_doing_576 ?_
          refine lv_bipush (v := 10) hx hb dX8_doing_577 (by decide) ?_
          refine lv_icmp_ne (tgt := 607) hx hb dX8_doing_579 (by decide) (fun c_178 => ?_) (fun c_178 => ?_)
          · skip
            refine lv_aload_n hx hb dX8_doing_607 rfl (lv_at hl 4 rfl) ?_
            refine lv_iconst (v := 1) hx hb dX8_doing_608 (by decide) ?_
            refine lv_aload_n hx hb dX8_doing_609 rfl (lv_at hl 4 rfl) ?_
            refine m_get (v := .ref (md G 53)) hx hb htu wu_in hown hK hP 53 (by decide) (htu _ U_238) rfl rfl dX8_doing_610 ?_
            refine lv_iload hx hb dX8_doing_613 (lv_at hl 1 rfl) ?_
            refine m_ald (j := R_165ph R_154v) (v := R_165.2.1 R_154v) hx hb hK hP 32 53 rfl (by omega) (by decide) (hAV.2.1 (by omega)) dX8_doing_615 ?_
            refine lv_aload_n hx hb dX8_doing_616 rfl (lv_at hl 4 rfl) ?_
            refine m_get (v := .ref (md G 53)) hx hb htu wu_in hown hK hP 53 (by decide) (htu _ U_238) rfl rfl dX8_doing_617 ?_
            refine lv_iload hx hb dX8_doing_620 (lv_at hl 0 rfl) ?_
            refine m_ald (j := R_165ph R_165v) (v := R_165.2.1 R_165v) hx hb hK hP 32 53 rfl (by omega) (by decide) (R_165V.2.1 (by omega)) dX8_doing_622 ?_
            refine lv_icmp_ge (tgt := 630) hx hb dX8_doing_623 (by decide) (fun c_179 => ?_) (fun c_179 => ?_)
            · skip
              refine lv_iconst (v := 0) hx hb dX8_doing_630 (by decide) ?_
              refine lv_bipush (v := (-9)) hx hb dX8_doing_631 (by decide) ?_
              refine m_ci (m_runV (As := [.int 1, .int 0, .int ((-9))]) (rest := []) ⟨hx, hb, hml, hown, htu⟩ (m_made l G hDD o_167 F_168 R_165vs 1 0 ((-9)) R_165K.1.1.1 ((by omega)) H.size) (cwV 3 htu gU_X8_made rfl rfl rfl (by decide +kernel) ⟨show 0 + 1 ≤ 3 * fu + 5 by omega, show 8 + (4 + 11) + 0 ≤ 80 * fu + 146 by omega⟩) hP hK rfl hl.1 rfl (lv_room (Nat.le_of_ble_eq_true rfl)) dX8_doing_633) hS (fun r_180 o_181 F_182 H locs hw_183 hP hS => ?_)
              try dsimp only at hw_183
              have m_184K := YK.made (so := 1) (n := 0) (e := 0) (xv := if R_165.2.1 R_154v < R_165.2.1 R_165v then (1 : Int32) else 0) R_165K R_165W h6 R_165XX.1 hw_183.2 rfl (fun _ => (if_neg (Int32.not_lt.mpr c_179)).symm) (fun z => absurd z (by decide)) (by decide)
              exact m_iret (v := r_180) hx hb hr hK hP hS (by rw [wmd_10 hk, wmTwo_3 R_154e R_154z R_165e R_165z, show wmTwo3 tr R_165 n R_154v R_165v = wmv R_165 1 0 0 (if R_165.2.1 R_154v < R_165.2.1 R_165v then (1 : Int32) else 0) [] from by (unfold wmTwo3; rw [if_pos ⟨hv0, hv1⟩, if_neg (fun z => c_178 (by rw [z]; rfl))])]; exact YQ.val m_184K R_165z (by decide) hw_183.1) dX8_doing_636 hlocks
            · skip
              refine lv_iconst (v := 1) hx hb dX8_doing_626 (by decide) ?_
              refine lv_goto (tgt := 631) hx hb dX8_doing_627 (by decide) ?_
              refine lv_bipush (v := (-9)) hx hb dX8_doing_631 (by decide) ?_
              refine m_ci (m_runV (As := [.int 1, .int 1, .int ((-9))]) (rest := []) ⟨hx, hb, hml, hown, htu⟩ (m_made l G hDD o_167 F_168 R_165vs 1 1 ((-9)) R_165K.1.1.1 ((by omega)) H.size) (cwV 3 htu gU_X8_made rfl rfl rfl (by decide +kernel) ⟨show 0 + 1 ≤ 3 * fu + 5 by omega, show 8 + (4 + 11) + 0 ≤ 80 * fu + 146 by omega⟩) hP hK rfl hl.1 rfl (lv_room (Nat.le_of_ble_eq_true rfl)) dX8_doing_633) hS (fun r_185 o_186 F_187 H locs hw_188 hP hS => ?_)
              try dsimp only at hw_188
              have m_189K := YK.made (so := 1) (n := 0) (e := 0) (xv := if R_165.2.1 R_154v < R_165.2.1 R_165v then (1 : Int32) else 0) R_165K R_165W h6 R_165XX.1 hw_188.2 rfl (fun _ => (if_pos (Int32.not_le.mp c_179)).symm) (fun z => absurd z (by decide)) (by decide)
              exact m_iret (v := r_185) hx hb hr hK hP hS (by rw [wmd_10 hk, wmTwo_3 R_154e R_154z R_165e R_165z, show wmTwo3 tr R_165 n R_154v R_165v = wmv R_165 1 0 0 (if R_165.2.1 R_154v < R_165.2.1 R_165v then (1 : Int32) else 0) [] from by (unfold wmTwo3; rw [if_pos ⟨hv0, hv1⟩, if_neg (fun z => c_178 (by rw [z]; rfl))])]; exact YQ.val m_189K R_165z (by decide) hw_188.1) dX8_doing_636 hlocks
          · skip
            refine lv_aload_n hx hb dX8_doing_582 rfl (lv_at hl 4 rfl) ?_
            refine lv_iconst (v := 0) hx hb dX8_doing_583 (by decide) ?_
            refine lv_aload_n hx hb dX8_doing_584 rfl (lv_at hl 4 rfl) ?_
            refine m_get (v := .ref (md G 53)) hx hb htu wu_in hown hK hP 53 (by decide) (htu _ U_238) rfl rfl dX8_doing_585 ?_
            refine lv_iload hx hb dX8_doing_588 (lv_at hl 1 rfl) ?_
            refine m_ald (j := R_165ph R_154v) (v := R_165.2.1 R_154v) hx hb hK hP 32 53 rfl (by omega) (by decide) (hAV.2.1 (by omega)) dX8_doing_590 ?_
            refine lv_aload_n hx hb dX8_doing_591 rfl (lv_at hl 4 rfl) ?_
            refine m_get (v := .ref (md G 53)) hx hb htu wu_in hown hK hP 53 (by decide) (htu _ U_238) rfl rfl dX8_doing_592 ?_
            refine lv_iload hx hb dX8_doing_595 (lv_at hl 0 rfl) ?_
            refine m_ald (j := R_165ph R_165v) (v := R_165.2.1 R_165v) hx hb hK hP 32 53 rfl (by omega) (by decide) (R_165V.2.1 (by omega)) dX8_doing_597 ?_
            refine lv_iadd hx hb dX8_doing_598 ?_
            refine m_top (y := (R_165.2.1 R_154v) + (R_165.2.1 R_165v)) rfl ?_
            refine lv_bipush (v := (-9)) hx hb dX8_doing_599 (by decide) ?_
            refine m_ci (m_runV (As := [.int 0, .int ((R_165.2.1 R_154v) + (R_165.2.1 R_165v)), .int ((-9))]) (rest := []) ⟨hx, hb, hml, hown, htu⟩ (m_made l G hDD o_167 F_168 R_165vs 0 ((R_165.2.1 R_154v) + (R_165.2.1 R_165v)) ((-9)) R_165K.1.1.1 ((by omega)) H.size) (cwV 3 htu gU_X8_made rfl rfl rfl (by decide +kernel) ⟨show 0 + 1 ≤ 3 * fu + 5 by omega, show 8 + (4 + 11) + 0 ≤ 80 * fu + 146 by omega⟩) hP hK rfl hl.1 rfl (lv_room (Nat.le_of_ble_eq_true rfl)) dX8_doing_601) hS (fun r_190 o_191 F_192 H locs hw_193 hP hS => ?_)
            try dsimp only at hw_193
            have m_194K := YK.made (so := 0) (n := 0) (e := 0) (xv := R_165.2.1 R_154v + R_165.2.1 R_165v) R_165K R_165W h6 R_165XX.1 hw_193.2 rfl (fun _ => rfl) (fun z => absurd z (by decide)) (by decide)
            refine lv_goto (tgt := 636) hx hb dX8_doing_604 (by decide) ?_
            exact m_iret (v := r_190) hx hb hr hK hP hS (by rw [wmd_10 hk, wmTwo_3 R_154e R_154z R_165e R_165z, show wmTwo3 tr R_165 n R_154v R_165v = wmv R_165 0 0 0 (R_165.2.1 R_154v + R_165.2.1 R_165v) [] from by (unfold wmTwo3; rw [if_pos ⟨hv0, hv1⟩, if_pos ((nI_eq (a := tr 0 n) (b := 10) (by omega) (by omega)).mp c_178)])]; exact YQ.val m_194K R_165z (by decide) hw_193.1) dX8_doing_636 hlocks
        · skip
          refine lv_aload_n hx hb dX8_doing_564 rfl (lv_at hl 4 rfl) ?_
          refine lv_iconst (v := 1) hx hb dX8_doing_565 (by decide) ?_
          refine lv_iload_n hx hb dX8_doing_566 rfl (lv_at hl 5 rfl) ?_
          refine m_ci (m_runV (As := [.int 1, .int (nI n)]) (rest := []) ⟨hx, hb, hml, hown, htu⟩ (m_halts l G hDD o_167 F_168 1 (nI n) H.size) (cwV 2 htu gU_X8_halts rfl rfl rfl (by decide +kernel) ⟨show 0 + 1 ≤ 3 * fu + 5 by omega, show 8 + (3 + 11) + 0 ≤ 80 * fu + 146 by omega⟩) hP hK rfl hl.1 rfl (lv_room (Nat.le_of_ble_eq_true rfl)) dX8_doing_567) hS (fun r_195 o_196 F_197 H locs hw_198 hP hS => ?_)
          try dsimp only at hw_198
          exact m_iret (v := r_195) hx hb hr hK hP hS (by rw [wmd_10 hk, wmTwo_3 R_154e R_154z R_165e R_165z, show wmTwo3 tr R_165 n R_154v R_165v = wmh R_165 1 n from if_neg (fun h => c_177 (by rw [h.2]; rfl))]; exact YK.halt R_165K (fun h => h67 (R_165K.2.2.2.1.2.2.2.symm.trans h)) (why := 1) (n := n) (by decide) rfl rfl hw_198.2) dX8_doing_570 hlocks

