theorem dX8_typing_0 : decode cX8_typing 0 = .ok (.aload_n 0, 1) := by decide +kernel
theorem dX8_typing_1 : decode cX8_typing 1 = .ok (.getfield 184, 3) := by decide +kernel
theorem dX8_typing_4 : decode cX8_typing 4 = .ok (.ifCond .eq 6, 3) := by decide +kernel
theorem dX8_typing_10 : decode cX8_typing 10 = .ok (.aload_n 0, 1) := by decide +kernel
theorem dX8_typing_11 : decode cX8_typing 11 = .ok (.getfield 199, 3) := by decide +kernel
theorem dX8_typing_14 : decode cX8_typing 14 = .ok (.bipush 60, 2) := by decide +kernel
theorem dX8_typing_16 : decode cX8_typing 16 = .ok (.if_icmp .ne 13, 3) := by decide +kernel
theorem dX8_typing_19 : decode cX8_typing 19 = .ok (.aload_n 0, 1) := by decide +kernel
theorem dX8_typing_20 : decode cX8_typing 20 = .ok (.bipush (-6), 2) := by decide +kernel
theorem dX8_typing_22 : decode cX8_typing 22 = .ok (.iload_n 1, 1) := by decide +kernel
theorem dX8_typing_23 : decode cX8_typing 23 = .ok (.invokevirtual 205, 3) := by decide +kernel
theorem dX8_typing_26 : decode cX8_typing 26 = .ok (.bipush (-9), 2) := by decide +kernel
theorem dX8_typing_28 : decode cX8_typing 28 = .ok (.ireturn, 1) := by decide +kernel
theorem dX8_typing_7 : decode cX8_typing 7 = .ok (.bipush (-9), 2) := by decide +kernel
theorem dX8_typing_9 : decode cX8_typing 9 = .ok (.ireturn, 1) := by decide +kernel
theorem dX8_typing_29 : decode cX8_typing 29 = .ok (.aload_n 0, 1) := by decide +kernel
theorem dX8_typing_30 : decode cX8_typing 30 = .ok (.dup, 1) := by decide +kernel
theorem dX8_typing_31 : decode cX8_typing 31 = .ok (.getfield 199, 3) := by decide +kernel
theorem dX8_typing_34 : decode cX8_typing 34 = .ok (.iconst 1, 1) := by decide +kernel
theorem dX8_typing_35 : decode cX8_typing 35 = .ok (.iadd, 1) := by decide +kernel
theorem dX8_typing_36 : decode cX8_typing 36 = .ok (.putfield 199, 3) := by decide +kernel
theorem dX8_typing_39 : decode cX8_typing 39 = .ok (.aload_n 0, 1) := by decide +kernel
theorem dX8_typing_40 : decode cX8_typing 40 = .ok (.iload_n 1, 1) := by decide +kernel
theorem dX8_typing_41 : decode cX8_typing 41 = .ok (.iload_n 2, 1) := by decide +kernel
theorem dX8_typing_42 : decode cX8_typing 42 = .ok (.invokevirtual 272, 3) := by decide +kernel
theorem dX8_typing_45 : decode cX8_typing 45 = .ok (.istore_n 3, 1) := by decide +kernel
theorem dX8_typing_46 : decode cX8_typing 46 = .ok (.aload_n 0, 1) := by decide +kernel
theorem dX8_typing_47 : decode cX8_typing 47 = .ok (.dup, 1) := by decide +kernel
theorem dX8_typing_48 : decode cX8_typing 48 = .ok (.getfield 199, 3) := by decide +kernel
theorem dX8_typing_51 : decode cX8_typing 51 = .ok (.iconst 1, 1) := by decide +kernel
theorem dX8_typing_52 : decode cX8_typing 52 = .ok (.isub, 1) := by decide +kernel
theorem dX8_typing_53 : decode cX8_typing 53 = .ok (.putfield 199, 3) := by decide +kernel
theorem dX8_typing_56 : decode cX8_typing 56 = .ok (.aload_n 0, 1) := by decide +kernel
theorem dX8_typing_57 : decode cX8_typing 57 = .ok (.getfield 184, 3) := by decide +kernel
theorem dX8_typing_60 : decode cX8_typing 60 = .ok (.ifCond .eq 8, 3) := by decide +kernel
theorem dX8_typing_68 : decode cX8_typing 68 = .ok (.iload_n 3, 1) := by decide +kernel
theorem dX8_typing_69 : decode cX8_typing 69 = .ok (.ireturn, 1) := by decide +kernel
theorem dX8_typing_63 : decode cX8_typing 63 = .ok (.bipush (-9), 2) := by decide +kernel
theorem dX8_typing_65 : decode cX8_typing 65 = .ok (.goto 4, 3) := by decide +kernel
def mTyAt (fu : Nat) : Prop := ∀ (l : Launch) (G : mG) (hDD : mDD G) (o : Nat → Int32) (F : Nat → Nat → Int32) (tr : aM) (N : Nat) (top : Nat) (gs : Nat → Prop) (z : aS) (ix : Nat → Nat → Nat) (lf : Nat) (an : Nat) (n : Nat) (lv : Nat) (hm : Nat) (d : Nat) (hTS : TS tr N top gs z ix lf an o F) (hn : n < N) (htp : top < N) (hup : UpT tr top d n) (hC : ∀ j, Cv gs tr top j n) (hdf : d + fu ≤ 60) (hlv : lv + fu ≤ 60) (hh : o 39 = nI hm) (hhm : hm ≤ 100000) (hb0 : bnd (ty tr top fu z n lv).1 ≤ 200000) (han : an + cntT tr (fu) n ≤ 1000000) (hh2 : sto z = 0 → hm + 6 * fu + 720 ≤ 8000) (hd : o 34 = nI (60 - fu)) (hfu : fu ≤ 60) (sz : Nat), Met l yX8_typing (wU yX8_typing cX8_typing 4 (some .int)) { frames := 3 * fu + 320, cells := 0, slots := 0, locals := 80 * fu + 9100 } (mPc G o F sz [.ref (mh G), .int (nI n), .int (nI lv)]) (mQi G sz (fun r u => (∃ ix' lf' an' gs', TW tr N top gs z ix an gs' (ty tr top fu z n lv).1 ix' lf' an' (cntT tr (fu) n) (fu + 60) o F u) ∧ (sto (ty tr top fu z n lv).1 = 0 → r = nI (ty tr top fu z n lv).2 ∧ (ty tr top fu z n lv).2 < nT (ty tr top fu z n lv).1))) 0 0 (mA G sz)

def mTysAt (fu : Nat) : Prop := ∀ (l : Launch) (G : mG) (hDD : mDD G) (o : Nat → Int32) (F : Nat → Nat → Int32) (tr : aM) (N : Nat) (top : Nat) (gs : Nat → Prop) (z : aS) (ix : Nat → Nat → Nat) (lf : Nat) (an : Nat) (n : Nat) (lv : Nat) (hm : Nat) (d : Nat) (hTS : TS tr N top gs z ix lf an o F) (hn : n < N) (htp : top < N) (hup : UpT tr top d n) (hC : ∀ j, Cv gs tr top j n) (hdf : d + (fu + 1) ≤ 60) (hlv : lv + (fu + 1) ≤ 60) (hh : o 39 = nI hm) (hhm : hm ≤ 100000) (hb0 : bnd (ty tr top (fu + 1) z n lv).1 ≤ 200000) (han : an + cntT tr ((fu + 1)) n ≤ 1000000) (hh2 : hm + 6 * (fu + 1) + 720 ≤ 8000) (hd : o 34 = nI (60 - fu)) (hfu : fu < 60) (h0 : sto z = 0) (sz : Nat), Met l yX8_types (wU yX8_types cX8_types 9 (some .int)) { frames := 3 * fu + 322, cells := 0, slots := 0, locals := 80 * fu + 9147 } (mPc G o F sz [.ref (mh G), .int (nI n), .int (nI lv)]) (mQi G sz (fun r u => (∃ ix' lf' an' gs', TW tr N top gs z ix an gs' (ty tr top (fu + 1) z n lv).1 ix' lf' an' (cntT tr (fu + 1) n) (fu + 1 + 60) o F u) ∧ (sto (ty tr top (fu + 1) z n lv).1 = 0 → r = nI (ty tr top (fu + 1) z n lv).2 ∧ (ty tr top (fu + 1) z n lv).2 < nT (ty tr top (fu + 1) z n lv).1))) 0 0 (mA G sz)

set_option maxHeartbeats 4000000 in
set_option maxRecDepth 100000 in
/-- typing, too deep -/
theorem m_typing_0 (l : Launch) (G : mG) (hDD : mDD G) (o : Nat → Int32) (F : Nat → Nat → Int32) (tr : aM) (N : Nat) (top : Nat) (gs : Nat → Prop) (z : aS) (ix : Nat → Nat → Nat) (lf : Nat) (an : Nat) (n : Nat) (lv : Nat) (hm : Nat) (d : Nat) (hTS : TS tr N top gs z ix lf an o F) (hn : n < N) (htp : top < N) (hup : UpT tr top d n) (hC : ∀ j, Cv gs tr top j n) (hdf : d + 0 ≤ 60) (hlv : lv + 0 ≤ 60) (hh : o 39 = nI hm) (hhm : hm ≤ 100000) (hb0 : bnd (ty tr top 0 z n lv).1 ≤ 200000) (han : an + cntT tr (0) n ≤ 1000000) (hh2 : sto z = 0 → hm + 6 * 0 + 720 ≤ 8000) (hd : o 34 = nI (60 - 0)) (hfu : 0 ≤ 60) (sz : Nat) : Met l yX8_typing (wU yX8_typing cX8_typing 4 (some .int)) { frames := 3 * 0 + 320, cells := 0, slots := 0, locals := 80 * 0 + 9100 } (mPc G o F sz [.ref (mh G), .int (nI n), .int (nI lv)]) (mQi G sz (fun r u => (∃ ix' lf' an' gs', TW tr N top gs z ix an gs' (ty tr top 0 z n lv).1 ix' lf' an' (cntT tr (0) n) (0 + 60) o F u) ∧ (sto (ty tr top 0 z n lv).1 = 0 → r = nI (ty tr top 0 z n lv).2 ∧ (ty tr top 0 z n lv).2 < nT (ty tr top 0 z n lv).1))) 0 0 (mA G sz) := by
  refine Met.ofW (cc := cX8_typing) (maxL := 4) (ret := (some .int)) (by decide) rfl ?_
  intro p e s m args below meth c s₁ B hml hv
  obtain ⟨rfl, hsz, hP, hK⟩ := hv
  have hx := B.exec
  have hb := B.bytes
  have hr := B.returns
  have htu : ∀ w ∈ WU, w.before _ s = true := fun w h => atoms_spec (ws := (wU yX8_typing cX8_typing 4 (some .int))) B.pre w (List.mem_cons_of_mem _ h)
  have hown : s.vm.findClass RX8 = some m.cls := findClass_of_methodNamed B.named
  have hlocks := B.notSynchronized
  subst hsz
  have hS : va_S (mA G s.heap.size) s.heap s.heap [] := va_S.rf
  have hl := lv_entry ([.ref (mh G), .int (nI n), .int (nI lv)]) (n := 4) (Nat.le_of_ble_eq_true rfl)
  rw [lg_entry_eq]
  generalize (lg_sl ([.ref (mh G), .int (nI n), .int (nI lv)]) ++ List.replicate (4 - (lg_sl ([.ref (mh G), .int (nI n), .int (nI lv)])).length) Slot.unset).toArray = ls at hl ⊢
  have hl : lv_has ls 4 [(0, .ref (mh G)), (1, .int (nI n)), (2, .int (nI lv))] := hl
  obtain ⟨H, hHe⟩ : ∃ H : Heap, H = s.heap := ⟨_, rfl⟩
  rw [← hHe] at hP
  have hS : va_S (mA G s.heap.size) s.heap H [] := by rw [hHe]; exact va_S.rf
  refine W.heq hHe ?_
  have hTS2 := hTS
  obtain ⟨hR, hT, hG, ⟨hM0, hl0, hlf⟩, ⟨hN0, hn0⟩, hu0, hd0, ha0, htop⟩ := hTS2
  obtain ⟨b1, b2, b3, b4, b5, b6, b7, b8⟩ := hR.2.1
  have hN := hT.2.1
  refine lv_aload_n hx hb dX8_typing_0 rfl (lv_at hl 0 rfl) ?_
  refine m_get (v := .int (sc (sto z))) hx hb htu wu_in hown hK hP 27 (by decide) (htu _ U_45) rfl (m_v hR.1.2.2.2.2.1) dX8_typing_1 ?_
  refine lv_if_eq (tgt := 10) hx hb dX8_typing_4 (by decide) (fun c_1 => ?_) (fun c_1 => ?_)
  · skip
    refine lv_aload_n hx hb dX8_typing_10 rfl (lv_at hl 0 rfl) ?_
    refine m_get (v := .int 60) hx hb htu wu_in hown hK hP 34 (by decide) (htu _ U_50) rfl (m_v hd) dX8_typing_11 ?_
    refine lv_bipush (v := 60) hx hb dX8_typing_14 (by decide) ?_
    refine lv_icmp_ne (tgt := 29) hx hb dX8_typing_16 (by decide) (fun c_2 => absurd (by decide) c_2) (fun c_2 => ?_)
    refine lv_aload_n hx hb dX8_typing_19 rfl (lv_at hl 0 rfl) ?_
    refine lv_bipush (v := (-6)) hx hb dX8_typing_20 (by decide) ?_
    refine lv_iload_n hx hb dX8_typing_22 rfl (lv_at hl 1 rfl) ?_
    refine m_cv (m_runV (As := [.int ((-6)), .int (nI n)]) (rest := []) ⟨hx, hb, hml, hown, htu⟩ (m_stops l G hDD o F z ix 1 n hR ((Or.inl rfl)) ((by omega)) H.size) (cwV 2 htu gU_X8_stops rfl rfl rfl (by decide +kernel) ⟨show 0 + 1 ≤ 3 * 0 + 320 by omega, show 8 + (3 + 11) + 0 ≤ 80 * 0 + 9100 by omega⟩) hP hK rfl hl.1 rfl (lv_room (Nat.le_of_ble_eq_true rfl)) dX8_typing_23) hS (fun o_4 F_5 H locs hw_6 hP hS => ?_)
    try dsimp only at hw_6
    refine lv_bipush (v := (-9)) hx hb dX8_typing_26 (by decide) ?_
    exact m_iret (v := (-9)) hx hb hr hK hP hS ⟨⟨ix, lf, an, gs, (TW.leaf (k := 0 + 60) hTS hw_6.1 Px.rf hw_6.2 (by decide) (x_stops _ _ _) (k_stops _ _ _) stops_sto0).wk (Nat.zero_le _) (Nat.le_refl _)⟩, fun h => absurd h (stops_sto hR)⟩ dX8_typing_28 hlocks
  · skip
    refine lv_bipush (v := (-9)) hx hb dX8_typing_7 (by decide) ?_
    exact m_iret (v := (-9)) hx hb hr hK hP hS (by have e1 := ty_st (tr := tr) (top := top) (k := 0) (n := n) (l := lv) (fun h => c_1 (sc_0.mpr h)); rw [e1]; exact ⟨⟨ix, lf, an, gs, (TW.rf (k := 0 + 60) hTS).wk (Nat.zero_le _) (Nat.le_refl _)⟩, fun h => absurd h (fun h => c_1 (sc_0.mpr h))⟩) dX8_typing_9 hlocks

set_option maxHeartbeats 4000000 in
set_option maxRecDepth 100000 in
/-- typing, one deeper -/
theorem m_typing_s (l : Launch) (G : mG) (hDD : mDD G) (o : Nat → Int32) (F : Nat → Nat → Int32) (fu : Nat) (tr : aM) (N : Nat) (top : Nat) (gs : Nat → Prop) (z : aS) (ix : Nat → Nat → Nat) (lf : Nat) (an : Nat) (n : Nat) (lv : Nat) (hm : Nat) (d : Nat) (hS9 : mTysAt fu) (hTS : TS tr N top gs z ix lf an o F) (hn : n < N) (htp : top < N) (hup : UpT tr top d n) (hC : ∀ j, Cv gs tr top j n) (hdf : d + (fu + 1) ≤ 60) (hlv : lv + (fu + 1) ≤ 60) (hh : o 39 = nI hm) (hhm : hm ≤ 100000) (hb0 : bnd (ty tr top (fu + 1) z n lv).1 ≤ 200000) (han : an + cntT tr (fu + 1) n ≤ 1000000) (hh2 : sto z = 0 → hm + 6 * (fu + 1) + 720 ≤ 8000) (hd : o 34 = nI (60 - (fu + 1))) (hfu : fu + 1 ≤ 60) (sz : Nat) : Met l yX8_typing (wU yX8_typing cX8_typing 4 (some .int)) { frames := 3 * (fu + 1) + 320, cells := 0, slots := 0, locals := 80 * (fu + 1) + 9100 } (mPc G o F sz [.ref (mh G), .int (nI n), .int (nI lv)]) (mQi G sz (fun r u => (∃ ix' lf' an' gs', TW tr N top gs z ix an gs' (ty tr top (fu + 1) z n lv).1 ix' lf' an' (cntT tr (fu + 1) n) (fu + 1 + 60) o F u) ∧ (sto (ty tr top (fu + 1) z n lv).1 = 0 → r = nI (ty tr top (fu + 1) z n lv).2 ∧ (ty tr top (fu + 1) z n lv).2 < nT (ty tr top (fu + 1) z n lv).1))) 0 0 (mA G sz) := by
  refine Met.ofW (cc := cX8_typing) (maxL := 4) (ret := (some .int)) (by decide) rfl ?_
  intro p e s m args below meth c s₁ B hml hv
  obtain ⟨rfl, hsz, hP, hK⟩ := hv
  have hx := B.exec
  have hb := B.bytes
  have hr := B.returns
  have htu : ∀ w ∈ WU, w.before _ s = true := fun w h => atoms_spec (ws := (wU yX8_typing cX8_typing 4 (some .int))) B.pre w (List.mem_cons_of_mem _ h)
  have hown : s.vm.findClass RX8 = some m.cls := findClass_of_methodNamed B.named
  have hlocks := B.notSynchronized
  subst hsz
  have hS : va_S (mA G s.heap.size) s.heap s.heap [] := va_S.rf
  have hl := lv_entry ([.ref (mh G), .int (nI n), .int (nI lv)]) (n := 4) (Nat.le_of_ble_eq_true rfl)
  rw [lg_entry_eq]
  generalize (lg_sl ([.ref (mh G), .int (nI n), .int (nI lv)]) ++ List.replicate (4 - (lg_sl ([.ref (mh G), .int (nI n), .int (nI lv)])).length) Slot.unset).toArray = ls at hl ⊢
  have hl : lv_has ls 4 [(0, .ref (mh G)), (1, .int (nI n)), (2, .int (nI lv))] := hl
  obtain ⟨H, hHe⟩ : ∃ H : Heap, H = s.heap := ⟨_, rfl⟩
  rw [← hHe] at hP
  have hS : va_S (mA G s.heap.size) s.heap H [] := by rw [hHe]; exact va_S.rf
  refine W.heq hHe ?_
  have hTS2 := hTS
  obtain ⟨hR, hT, hG, ⟨hM0, hl0, hlf⟩, ⟨hN0, hn0⟩, hu0, hd0, ha0, htop⟩ := hTS2
  obtain ⟨b1, b2, b3, b4, b5, b6, b7, b8⟩ := hR.2.1
  refine lv_aload_n hx hb dX8_typing_0 rfl (lv_at hl 0 rfl) ?_
  refine m_get (v := .int (sc (sto z))) hx hb htu wu_in hown hK hP 27 (by decide) (htu _ U_45) rfl (m_v hR.1.2.2.2.2.1) dX8_typing_1 ?_
  refine lv_if_eq (tgt := 10) hx hb dX8_typing_4 (by decide) (fun c_1 => ?_) (fun c_1 => ?_)
  · skip
    have h0 : sto z = 0 := sc_0.mp c_1
    refine lv_aload_n hx hb dX8_typing_10 rfl (lv_at hl 0 rfl) ?_
    refine m_get (v := .int (nI (60 - (fu + 1)))) hx hb htu wu_in hown hK hP 34 (by decide) (htu _ U_50) rfl (m_v hd) dX8_typing_11 ?_
    refine lv_bipush (v := 60) hx hb dX8_typing_14 (by decide) ?_
    refine lv_icmp_ne (tgt := 29) hx hb dX8_typing_16 (by decide) (fun c_2 => ?_) (fun c_2 => absurd c_2 (fun h9 => absurd ((nI_eq (b := 60) (by omega) (by omega)).mp h9) (by omega)))
    refine lv_aload_n hx hb dX8_typing_29 rfl (lv_at hl 0 rfl) ?_
    refine lv_dup hx hb dX8_typing_30 rfl ?_
    refine m_get (v := .int (nI (60 - (fu + 1)))) hx hb htu wu_in hown hK hP 34 (by decide) (htu _ U_50) rfl (m_v hd) dX8_typing_31 ?_
    refine lv_iconst (v := 1) hx hb dX8_typing_34 (by decide) ?_
    refine lv_iadd hx hb dX8_typing_35 ?_
    refine m_top (y := nI (60 - (fu + 1) + 1)) (nI_add (60 - (fu + 1)) 1) ?_
    refine m_put (ty := .int) (x := nI (60 - (fu + 1) + 1)) hx hb htu wu_in hown hK hP hDD hS 34 (by decide) (htu _ U_50) rfl rfl (by decide +kernel) rfl rfl (mO_s34 _ _ _) dX8_typing_36 (fun H locs hP hS => ?_)
    refine lv_aload_n hx hb dX8_typing_39 rfl (lv_at hl 0 rfl) ?_
    refine lv_iload_n hx hb dX8_typing_40 rfl (lv_at hl 1 rfl) ?_
    refine lv_iload_n hx hb dX8_typing_41 rfl (lv_at hl 2 rfl) ?_
    refine m_ci (m_runV (As := [.int (nI n), .int (nI lv)]) (rest := []) ⟨hx, hb, hml, hown, htu⟩ (hS9 l G hDD (upd o 34 (nI (60 - (fu + 1) + 1))) F tr N top gs z ix lf an n lv hm d hTS hn htp hup hC hdf hlv hh hhm hb0 han ((hh2 h0)) ((congrArg nI (by omega))) ((by omega)) h0 H.size) (cwV 2 htu gU_X8_types rfl rfl rfl (by decide +kernel) ⟨show (3 * fu + 322) + 1 ≤ 3 * (fu + 1) + 320 by omega, show 8 + (9 + 11) + (80 * fu + 9147) ≤ 80 * (fu + 1) + 9100 by omega⟩) hP hK rfl hl.1 rfl (lv_room (Nat.le_of_ble_eq_true rfl)) dX8_typing_42) hS (fun r_3 o_4 F_5 H locs hw_6 hP hS => ?_)
    try dsimp only at hw_6
    obtain ⟨⟨ix1, lf1, an1, gs1, a1, a2, a3, a4, a5, a6, a7, a8, a9⟩, hv1⟩ := hw_6
    refine lv_istore_n (lv' := [(3, .int r_3), (0, .ref (mh G)), (1, .int (nI n)), (2, .int (nI lv))]) hx hb dX8_typing_45 rfl hl (by decide) rfl (fun ls hl => ?_)
    refine lv_aload_n hx hb dX8_typing_46 rfl (lv_at hl 1 rfl) ?_
    refine lv_dup hx hb dX8_typing_47 rfl ?_
    refine m_get (v := .int (nI (60 - (fu + 1) + 1))) hx hb htu wu_in hown hK hP 34 (by decide) (htu _ U_50) rfl (m_v a6) dX8_typing_48 ?_
    refine lv_iconst (v := 1) hx hb dX8_typing_51 (by decide) ?_
    refine lv_isub hx hb dX8_typing_52 ?_
    refine m_top (y := nI (60 - (fu + 1))) (nI_pred _) ?_
    refine m_put (ty := .int) (x := nI (60 - (fu + 1))) hx hb htu wu_in hown hK hP hDD hS 34 (by decide) (htu _ U_50) rfl rfl (by decide +kernel) rfl rfl (mO_s34 _ _ _) dX8_typing_53 (fun H locs hP hS => ?_)
    refine lv_aload_n hx hb dX8_typing_56 rfl (lv_at hl 1 rfl) ?_
    refine m_get (v := .int (sc (sto (ty tr top (fu + 1) z n lv).1))) hx hb htu wu_in hown hK hP 27 (by decide) (htu _ U_45) rfl (m_v a1.1.1.2.2.2.2.1) dX8_typing_57 ?_
    refine lv_if_eq (tgt := 68) hx hb dX8_typing_60 (by decide) (fun c_7 => ?_) (fun c_7 => ?_)
    · skip
      refine lv_iload_n hx hb dX8_typing_68 rfl (lv_at hl 0 rfl) ?_
      exact m_iret (v := r_3) hx hb hr hK hP hS ⟨⟨ix1, lf1, an1, gs1, a1, a2, a3, a4, a5, hd.symm, Kq.o (Kq.tr (Kq.o Kq.rf (by decide)) a7) (by decide), a8, a9⟩, hv1⟩ dX8_typing_69 hlocks
    · skip
      refine lv_bipush (v := (-9)) hx hb dX8_typing_63 (by decide) ?_
      refine lv_goto (tgt := 69) hx hb dX8_typing_65 (by decide) ?_
      exact m_iret (v := (-9)) hx hb hr hK hP hS ⟨⟨ix1, lf1, an1, gs1, a1, a2, a3, a4, a5, hd.symm, Kq.o (Kq.tr (Kq.o Kq.rf (by decide)) a7) (by decide), a8, a9⟩, (fun h => absurd (sc_0.mpr h) c_7)⟩ dX8_typing_69 hlocks
  · skip
    refine lv_bipush (v := (-9)) hx hb dX8_typing_7 (by decide) ?_
    exact m_iret (v := (-9)) hx hb hr hK hP hS (by have e1 := ty_st (tr := tr) (top := top) (k := fu + 1) (n := n) (l := lv) (fun h => c_1 (sc_0.mpr h)); rw [e1]; exact ⟨⟨ix, lf, an, gs, (TW.rf (k := fu + 1 + 60) hTS).wk (Nat.zero_le _) (Nat.le_refl _)⟩, fun h => absurd h (fun h => c_1 (sc_0.mpr h))⟩) dX8_typing_9 hlocks

