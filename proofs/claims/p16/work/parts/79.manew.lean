theorem dX8_anew_0 : decode cX8_anew 0 = .ok (.aload_n 0, 1) := by decide +kernel
theorem dX8_anew_1 : decode cX8_anew 1 = .ok (.getfield 184, 3) := by decide +kernel
theorem dX8_anew_4 : decode cX8_anew 4 = .ok (.ifCond .eq 6, 3) := by decide +kernel
theorem dX8_anew_10 : decode cX8_anew 10 = .ok (.aload_n 0, 1) := by decide +kernel
theorem dX8_anew_11 : decode cX8_anew 11 = .ok (.getfield 196, 3) := by decide +kernel
theorem dX8_anew_14 : decode cX8_anew 14 = .ok (.bipush 60, 2) := by decide +kernel
theorem dX8_anew_16 : decode cX8_anew 16 = .ok (.if_icmp .ne 16, 3) := by decide +kernel
theorem dX8_anew_19 : decode cX8_anew 19 = .ok (.aload_n 0, 1) := by decide +kernel
theorem dX8_anew_20 : decode cX8_anew 20 = .ok (.bipush (-6), 2) := by decide +kernel
theorem dX8_anew_22 : decode cX8_anew 22 = .ok (.aload_n 0, 1) := by decide +kernel
theorem dX8_anew_23 : decode cX8_anew 23 = .ok (.getfield 202, 3) := by decide +kernel
theorem dX8_anew_26 : decode cX8_anew 26 = .ok (.invokevirtual 205, 3) := by decide +kernel
theorem dX8_anew_29 : decode cX8_anew 29 = .ok (.bipush (-9), 2) := by decide +kernel
theorem dX8_anew_31 : decode cX8_anew 31 = .ok (.ireturn, 1) := by decide +kernel
theorem dX8_anew_7 : decode cX8_anew 7 = .ok (.bipush (-9), 2) := by decide +kernel
theorem dX8_anew_9 : decode cX8_anew 9 = .ok (.ireturn, 1) := by decide +kernel
theorem dX8_anew_32 : decode cX8_anew 32 = .ok (.aload_n 0, 1) := by decide +kernel
theorem dX8_anew_33 : decode cX8_anew 33 = .ok (.dup, 1) := by decide +kernel
theorem dX8_anew_34 : decode cX8_anew 34 = .ok (.getfield 196, 3) := by decide +kernel
theorem dX8_anew_37 : decode cX8_anew 37 = .ok (.iconst 1, 1) := by decide +kernel
theorem dX8_anew_38 : decode cX8_anew 38 = .ok (.iadd, 1) := by decide +kernel
theorem dX8_anew_39 : decode cX8_anew 39 = .ok (.putfield 196, 3) := by decide +kernel
theorem dX8_anew_42 : decode cX8_anew 42 = .ok (.aload_n 0, 1) := by decide +kernel
theorem dX8_anew_43 : decode cX8_anew 43 = .ok (.iload_n 1, 1) := by decide +kernel
theorem dX8_anew_44 : decode cX8_anew 44 = .ok (.iload_n 2, 1) := by decide +kernel
theorem dX8_anew_45 : decode cX8_anew 45 = .ok (.iload_n 3, 1) := by decide +kernel
theorem dX8_anew_46 : decode cX8_anew 46 = .ok (.invokevirtual 267, 3) := by decide +kernel
theorem dX8_anew_49 : decode cX8_anew 49 = .ok (.istore 4, 2) := by decide +kernel
theorem dX8_anew_51 : decode cX8_anew 51 = .ok (.aload_n 0, 1) := by decide +kernel
theorem dX8_anew_52 : decode cX8_anew 52 = .ok (.dup, 1) := by decide +kernel
theorem dX8_anew_53 : decode cX8_anew 53 = .ok (.getfield 196, 3) := by decide +kernel
theorem dX8_anew_56 : decode cX8_anew 56 = .ok (.iconst 1, 1) := by decide +kernel
theorem dX8_anew_57 : decode cX8_anew 57 = .ok (.isub, 1) := by decide +kernel
theorem dX8_anew_58 : decode cX8_anew 58 = .ok (.putfield 196, 3) := by decide +kernel
theorem dX8_anew_61 : decode cX8_anew 61 = .ok (.aload_n 0, 1) := by decide +kernel
theorem dX8_anew_62 : decode cX8_anew 62 = .ok (.getfield 184, 3) := by decide +kernel
theorem dX8_anew_65 : decode cX8_anew 65 = .ok (.ifCond .eq 8, 3) := by decide +kernel
theorem dX8_anew_73 : decode cX8_anew 73 = .ok (.iload 4, 2) := by decide +kernel
theorem dX8_anew_75 : decode cX8_anew 75 = .ok (.ireturn, 1) := by decide +kernel
theorem dX8_anew_68 : decode cX8_anew 68 = .ok (.bipush (-9), 2) := by decide +kernel
theorem dX8_anew_70 : decode cX8_anew 70 = .ok (.goto 5, 3) := by decide +kernel
def mAnewAt (fu : Nat) : Prop := ∀ (l : Launch) (G : mG) (hDD : mDD G) (o : Nat → Int32) (F : Nat → Nat → Int32) (z : aS) (ix : Nat → Nat → Nat) (lf : Nat) (t : Nat) (lv : Nat) (mm : Nat) (hm : Nat) (tv : Int32) (hR : MR z ix o F) (hML : MN lf z F) (hlf : lf < 2 ^ 31) (hw2 : lv ≤ 100) (hn : o 42 = nI lf) (hmm : mm ≤ 100) (hh : o 39 = nI hm) (hb0 : bnd (cp fu z t 2 mm lv).1 ≤ 200000) (hd : o 33 = nI (60 - fu)) (hfu : fu ≤ 60) (hh2 : sto z = 0 → hm + 6 * fu ≤ 8000) (hhm : hm ≤ 100000) (htv : sto z = 0 → tv = nI t ∧ t < nT z) (sz : Nat), Met l yX8_anew (wU yX8_anew cX8_anew 5 (some .int)) { frames := 3 * fu + 6, cells := 0, slots := 0, locals := 82 * fu + 200 } (mPc G o F sz [.ref (mh G), .int tv, .int (nI mm), .int (nI lv)]) (mQi G sz (fun r u => LQ [7, 8, 9, 10, 11, 12, 13, 14, 15, 16, 17, 18, 19, 20, 21, 24, 27, 33, 38, 39, 40, 41] (MN lf) z ix hm fu o F (cp fu z t 2 mm lv) r u ∧ u.1 33 = o 33)) 0 0 (mA G sz)

def mAnewsAt (fu : Nat) : Prop := ∀ (l : Launch) (G : mG) (hDD : mDD G) (o : Nat → Int32) (F : Nat → Nat → Int32) (z : aS) (ix : Nat → Nat → Nat) (lf : Nat) (t : Nat) (lv : Nat) (mm : Nat) (hm : Nat) (hR : MR z ix o F) (hML : MN lf z F) (hlf : lf < 2 ^ 31) (hw2 : lv ≤ 100) (hn : o 42 = nI lf) (hmm : mm ≤ 100) (hh : o 39 = nI hm) (hb0 : bnd (cp (fu + 1) z t 2 mm lv).1 ≤ 200000) (hd : o 33 = nI (60 - fu)) (hfu : fu < 60) (hh2 : hm + 6 * (fu + 1) ≤ 8000) (h0 : sto z = 0) (ht : t < nT z) (sz : Nat), Met l yX8_anews (wU yX8_anews cX8_anews 11 (some .int)) { frames := 3 * fu + 8, cells := 0, slots := 0, locals := 82 * fu + 252 } (mPc G o F sz [.ref (mh G), .int (nI t), .int (nI mm), .int (nI lv)]) (mQi G sz (fun r u => LQ [7, 8, 9, 10, 11, 12, 13, 14, 15, 16, 17, 18, 19, 20, 21, 24, 27, 33, 38, 39, 40, 41] (MN lf) z ix hm (fu + 1) o F (cp (fu + 1) z t 2 mm lv) r u ∧ u.1 33 = o 33)) 0 0 (mA G sz)

set_option maxHeartbeats 4000000 in
set_option maxRecDepth 100000 in
/-- lift, too deep -/
theorem m_anew_0_w (l : Launch) (G : mG) (hDD : mDD G) (o : Nat → Int32) (F : Nat → Nat → Int32) (z : aS) (ix : Nat → Nat → Nat) (lf : Nat) (t : Nat) (lv : Nat) (mm : Nat) (hm : Nat) (tv : Int32) (hR : MR z ix o F) (hML : MN lf z F) (hlf : lf < 2 ^ 31) (hw2 : lv ≤ 100) (hn : o 42 = nI lf) (hmm : mm ≤ 100) (hh : o 39 = nI hm) (hb0 : bnd (cp 0 z t 2 mm lv).1 ≤ 200000) (hd : o 33 = nI (60 - 0)) (hfu : 0 ≤ 60) (hh2 : sto z = 0 → hm + 6 * 0 ≤ 8000) (hhm : hm ≤ 100000) (htv : sto z = 0 → tv = nI t ∧ t < nT z) (sz : Nat) : Met l yX8_anew (wU yX8_anew cX8_anew 5 (some .int)) { frames := 3 * 0 + 6, cells := 0, slots := 0, locals := 82 * 0 + 200 } (mPc G o F sz [.ref (mh G), .int tv, .int (nI mm), .int (nI lv)]) (mQi G sz (fun r u => LQ [7, 8, 9, 10, 11, 12, 13, 14, 15, 16, 17, 18, 19, 20, 21, 24, 27, 33, 38, 39, 40, 41] (MN lf) z ix hm 0 o F (cp 0 z t 2 mm lv) r u ∧ u.1 33 = o 33)) 0 0 (mA G sz) := by
  refine Met.ofW (cc := cX8_anew) (maxL := 5) (ret := (some .int)) (by decide) rfl ?_
  intro p e s m args below meth c s₁ B hml hv
  obtain ⟨rfl, hsz, hP, hK⟩ := hv
  have hx := B.exec
  have hb := B.bytes
  have hr := B.returns
  have htu : ∀ w ∈ WU, w.before _ s = true := fun w h => atoms_spec (ws := (wU yX8_anew cX8_anew 5 (some .int))) B.pre w (List.mem_cons_of_mem _ h)
  have hown : s.vm.findClass RX8 = some m.cls := findClass_of_methodNamed B.named
  have hlocks := B.notSynchronized
  subst hsz
  have hS : va_S (mA G s.heap.size) s.heap s.heap [] := va_S.rf
  have hl := lv_entry ([.ref (mh G), .int tv, .int (nI mm), .int (nI lv)]) (n := 5) (Nat.le_of_ble_eq_true rfl)
  rw [lg_entry_eq]
  generalize (lg_sl ([.ref (mh G), .int tv, .int (nI mm), .int (nI lv)]) ++ List.replicate (5 - (lg_sl ([.ref (mh G), .int tv, .int (nI mm), .int (nI lv)])).length) Slot.unset).toArray = ls at hl ⊢
  have hl : lv_has ls 5 [(0, .ref (mh G)), (1, .int tv), (2, .int (nI mm)), (3, .int (nI lv))] := hl
  obtain ⟨H, hHe⟩ : ∃ H : Heap, H = s.heap := ⟨_, rfl⟩
  rw [← hHe] at hP
  have hS : va_S (mA G s.heap.size) s.heap H [] := by rw [hHe]; exact va_S.rf
  refine W.heq hHe ?_
  obtain ⟨b1, b2, b3, b4, b5, b6, b7, b8⟩ := hR.2.1
  refine lv_aload_n hx hb dX8_anew_0 rfl (lv_at hl 0 rfl) ?_
  refine m_get (v := .int (sc (sto z))) hx hb htu wu_in hown hK hP 27 (by decide) (htu _ U_45) rfl (m_v hR.1.2.2.2.2.1) dX8_anew_1 ?_
  refine lv_if_eq (tgt := 10) hx hb dX8_anew_4 (by decide) (fun c_1 => ?_) (fun c_1 => ?_)
  · skip
    refine lv_aload_n hx hb dX8_anew_10 rfl (lv_at hl 0 rfl) ?_
    refine m_get (v := .int 60) hx hb htu wu_in hown hK hP 33 (by decide) (htu _ U_49) rfl (m_v hd) dX8_anew_11 ?_
    refine lv_bipush (v := 60) hx hb dX8_anew_14 (by decide) ?_
    refine lv_icmp_ne (tgt := 32) hx hb dX8_anew_16 (by decide) (fun c_2 => absurd (by decide) c_2) (fun c_2 => ?_)
    refine lv_aload_n hx hb dX8_anew_19 rfl (lv_at hl 0 rfl) ?_
    refine lv_bipush (v := (-6)) hx hb dX8_anew_20 (by decide) ?_
    refine lv_aload_n hx hb dX8_anew_22 rfl (lv_at hl 0 rfl) ?_
    refine m_get (v := .int (nI (askn z))) hx hb htu wu_in hown hK hP 25 (by decide) (htu _ U_61) rfl (m_v hR.1.2.2.2.2.2.2.1) dX8_anew_23 ?_
    refine m_cv (m_runV (As := [.int ((-6)), .int (nI (askn z))]) (rest := []) ⟨hx, hb, hml, hown, htu⟩ (m_stops l G hDD o F z ix 1 ((askn z)) hR ((Or.inl rfl)) ((by omega)) H.size) (cwV 2 htu gU_X8_stops rfl rfl rfl (by decide +kernel) ⟨show 0 + 1 ≤ 3 * 0 + 6 by omega, show 8 + (3 + 11) + 0 ≤ 82 * 0 + 200 by omega⟩) hP hK rfl hl.1 rfl (lv_room (Nat.le_of_ble_eq_true rfl)) dX8_anew_26) hS (fun o_4 F_5 H locs hw_6 hP hS => ?_)
    try dsimp only at hw_6
    refine lv_bipush (v := (-9)) hx hb dX8_anew_29 (by decide) ?_
    exact m_iret (v := (-9)) hx hb hr hK hP hS ⟨⟨⟨ix, hw_6.1, Px.rf⟩, hML.to (me_stops z 1 (askn z)) (x_stops _ _ _).1 (hw_6.2 40 (by decide)).2 (hw_6.2 41 (by decide)).2, fun h => absurd h (stops_sto hR), fun h => absurd (sc_0.mp c_1) h, HM.own hh (hw_6.2 39 (by decide)).1 (hw_6.2 38 (by decide)).2, hw_6.2.mono (by decide)⟩, (hw_6.2 33 (by decide)).1⟩ dX8_anew_31 hlocks
  · skip
    refine lv_bipush (v := (-9)) hx hb dX8_anew_7 (by decide) ?_
    exact m_iret (v := (-9)) hx hb hr hK hP hS (by rw [cp_stop (k := 0) (fun h => c_1 (sc_0.mpr h))]; exact ⟨⟨⟨ix, hR, Px.rf⟩, hML, fun h => absurd h (fun h => c_1 (sc_0.mpr h)), fun _ => rfl, HM.rf hh, Kq.rf⟩, rfl⟩) dX8_anew_9 hlocks

set_option maxHeartbeats 4000000 in
set_option maxRecDepth 100000 in
/-- lift, one deeper -/
theorem m_anew_s (l : Launch) (G : mG) (hDD : mDD G) (o : Nat → Int32) (F : Nat → Nat → Int32) (fu : Nat) (z : aS) (ix : Nat → Nat → Nat) (lf : Nat) (t : Nat) (lv : Nat) (mm : Nat) (hm : Nat) (tv : Int32) (hL : mAnewsAt fu) (hR : MR z ix o F) (hML : MN lf z F) (hlf : lf < 2 ^ 31) (hw2 : lv ≤ 100) (hn : o 42 = nI lf) (hmm : mm ≤ 100) (hh : o 39 = nI hm) (hb0 : bnd (cp (fu + 1) z t 2 mm lv).1 ≤ 200000) (hd : o 33 = nI (60 - (fu + 1))) (hfu : fu + 1 ≤ 60) (hh2 : sto z = 0 → hm + 6 * (fu + 1) ≤ 8000) (hhm : hm ≤ 100000) (htv : sto z = 0 → tv = nI t ∧ t < nT z) (sz : Nat) : Met l yX8_anew (wU yX8_anew cX8_anew 5 (some .int)) { frames := 3 * (fu + 1) + 6, cells := 0, slots := 0, locals := 82 * (fu + 1) + 200 } (mPc G o F sz [.ref (mh G), .int tv, .int (nI mm), .int (nI lv)]) (mQi G sz (fun r u => LQ [7, 8, 9, 10, 11, 12, 13, 14, 15, 16, 17, 18, 19, 20, 21, 24, 27, 33, 38, 39, 40, 41] (MN lf) z ix hm (fu + 1) o F (cp (fu + 1) z t 2 mm lv) r u ∧ u.1 33 = o 33)) 0 0 (mA G sz) := by
  refine Met.ofW (cc := cX8_anew) (maxL := 5) (ret := (some .int)) (by decide) rfl ?_
  intro p e s m args below meth c s₁ B hml hv
  obtain ⟨rfl, hsz, hP, hK⟩ := hv
  have hx := B.exec
  have hb := B.bytes
  have hr := B.returns
  have htu : ∀ w ∈ WU, w.before _ s = true := fun w h => atoms_spec (ws := (wU yX8_anew cX8_anew 5 (some .int))) B.pre w (List.mem_cons_of_mem _ h)
  have hown : s.vm.findClass RX8 = some m.cls := findClass_of_methodNamed B.named
  have hlocks := B.notSynchronized
  subst hsz
  have hS : va_S (mA G s.heap.size) s.heap s.heap [] := va_S.rf
  have hl := lv_entry ([.ref (mh G), .int tv, .int (nI mm), .int (nI lv)]) (n := 5) (Nat.le_of_ble_eq_true rfl)
  rw [lg_entry_eq]
  generalize (lg_sl ([.ref (mh G), .int tv, .int (nI mm), .int (nI lv)]) ++ List.replicate (5 - (lg_sl ([.ref (mh G), .int tv, .int (nI mm), .int (nI lv)])).length) Slot.unset).toArray = ls at hl ⊢
  have hl : lv_has ls 5 [(0, .ref (mh G)), (1, .int tv), (2, .int (nI mm)), (3, .int (nI lv))] := hl
  obtain ⟨H, hHe⟩ : ∃ H : Heap, H = s.heap := ⟨_, rfl⟩
  rw [← hHe] at hP
  have hS : va_S (mA G s.heap.size) s.heap H [] := by rw [hHe]; exact va_S.rf
  refine W.heq hHe ?_
  obtain ⟨b1, b2, b3, b4, b5, b6, b7, b8⟩ := hR.2.1
  refine lv_aload_n hx hb dX8_anew_0 rfl (lv_at hl 0 rfl) ?_
  refine m_get (v := .int (sc (sto z))) hx hb htu wu_in hown hK hP 27 (by decide) (htu _ U_45) rfl (m_v hR.1.2.2.2.2.1) dX8_anew_1 ?_
  refine lv_if_eq (tgt := 10) hx hb dX8_anew_4 (by decide) (fun c_1 => ?_) (fun c_1 => ?_)
  · skip
    have h0 : sto z = 0 := sc_0.mp c_1
    obtain ⟨rfl, ht⟩ := htv h0
    refine lv_aload_n hx hb dX8_anew_10 rfl (lv_at hl 0 rfl) ?_
    refine m_get (v := .int (nI (60 - (fu + 1)))) hx hb htu wu_in hown hK hP 33 (by decide) (htu _ U_49) rfl (m_v hd) dX8_anew_11 ?_
    refine lv_bipush (v := 60) hx hb dX8_anew_14 (by decide) ?_
    refine lv_icmp_ne (tgt := 32) hx hb dX8_anew_16 (by decide) (fun c_2 => ?_) (fun c_2 => absurd c_2 (fun h9 => absurd ((nI_eq (b := 60) (by omega) (by omega)).mp h9) (by omega)))
    refine lv_aload_n hx hb dX8_anew_32 rfl (lv_at hl 0 rfl) ?_
    refine lv_dup hx hb dX8_anew_33 rfl ?_
    refine m_get (v := .int (nI (60 - (fu + 1)))) hx hb htu wu_in hown hK hP 33 (by decide) (htu _ U_49) rfl (m_v hd) dX8_anew_34 ?_
    refine lv_iconst (v := 1) hx hb dX8_anew_37 (by decide) ?_
    refine lv_iadd hx hb dX8_anew_38 ?_
    refine m_top (y := nI (60 - (fu + 1) + 1)) (nI_add (60 - (fu + 1)) 1) ?_
    refine m_put (ty := .int) (x := nI (60 - (fu + 1) + 1)) hx hb htu wu_in hown hK hP hDD hS 33 (by decide) (htu _ U_49) rfl rfl (by decide +kernel) rfl rfl (mO_s33 _ _ _) dX8_anew_39 (fun H locs hP hS => ?_)
    refine lv_aload_n hx hb dX8_anew_42 rfl (lv_at hl 0 rfl) ?_
    refine lv_iload_n hx hb dX8_anew_43 rfl (lv_at hl 1 rfl) ?_
    refine lv_iload_n hx hb dX8_anew_44 rfl (lv_at hl 2 rfl) ?_
    refine lv_iload_n hx hb dX8_anew_45 rfl (lv_at hl 3 rfl) ?_
    refine m_ci (m_runV (As := [.int (nI t), .int (nI mm), .int (nI lv)]) (rest := []) ⟨hx, hb, hml, hown, htu⟩ (hL l G hDD (upd o 33 (nI (60 - (fu + 1) + 1))) F z ix lf t lv mm hm hR hML hlf hw2 hn hmm hh hb0 ((congrArg nI (by omega))) ((by omega)) ((hh2 h0)) h0 ht H.size) (cwV 3 htu gU_X8_anews rfl rfl rfl (by decide +kernel) ⟨show (3 * fu + 8) + 1 ≤ 3 * (fu + 1) + 6 by omega, show 8 + (11 + 11) + (82 * fu + 252) ≤ 82 * (fu + 1) + 200 by omega⟩) hP hK rfl hl.1 rfl (lv_room (Nat.le_of_ble_eq_true rfl)) dX8_anew_46) hS (fun r_3 o_4 F_5 H locs hw_6 hP hS => ?_)
    try dsimp only at hw_6
    obtain ⟨⟨⟨ix1, hR1, hP1⟩, hM1, hv1, hs1, hH1, hK1⟩, hd1⟩ := hw_6
    refine lv_istore (lv' := [(4, .int r_3), (0, .ref (mh G)), (1, .int (nI t)), (2, .int (nI mm)), (3, .int (nI lv))]) hx hb dX8_anew_49 hl (by decide) rfl (fun ls hl => ?_)
    refine lv_aload_n hx hb dX8_anew_51 rfl (lv_at hl 1 rfl) ?_
    refine lv_dup hx hb dX8_anew_52 rfl ?_
    refine m_get (v := .int (nI (60 - (fu + 1) + 1))) hx hb htu wu_in hown hK hP 33 (by decide) (htu _ U_49) rfl (m_v hd1) dX8_anew_53 ?_
    refine lv_iconst (v := 1) hx hb dX8_anew_56 (by decide) ?_
    refine lv_isub hx hb dX8_anew_57 ?_
    refine m_top (y := nI (60 - (fu + 1))) (nI_pred _) ?_
    refine m_put (ty := .int) (x := nI (60 - (fu + 1))) hx hb htu wu_in hown hK hP hDD hS 33 (by decide) (htu _ U_49) rfl rfl (by decide +kernel) rfl rfl (mO_s33 _ _ _) dX8_anew_58 (fun H locs hP hS => ?_)
    refine lv_aload_n hx hb dX8_anew_61 rfl (lv_at hl 1 rfl) ?_
    refine m_get (v := .int (sc (sto (cp (fu + 1) z t 2 mm lv).1))) hx hb htu wu_in hown hK hP 27 (by decide) (htu _ U_45) rfl (m_v hR1.1.2.2.2.2.1) dX8_anew_62 ?_
    refine lv_if_eq (tgt := 73) hx hb dX8_anew_65 (by decide) (fun c_7 => ?_) (fun c_7 => ?_)
    · skip
      refine lv_iload hx hb dX8_anew_73 (lv_at hl 0 rfl) ?_
      exact m_iret (v := r_3) hx hb hr hK hP hS ⟨⟨⟨ix1, hR1, hP1⟩, hM1, hv1, fun h => absurd h0 h, hH1.next rfl rfl (Nat.le_refl _) id, Kq.o (Kq.tr (Kq.o Kq.rf (by decide)) hK1) (by decide)⟩, hd.symm⟩ dX8_anew_75 hlocks
    · skip
      refine lv_bipush (v := (-9)) hx hb dX8_anew_68 (by decide) ?_
      refine lv_goto (tgt := 75) hx hb dX8_anew_70 (by decide) ?_
      exact m_iret (v := (-9)) hx hb hr hK hP hS ⟨⟨⟨ix1, hR1, hP1⟩, hM1, (fun h => absurd (sc_0.mpr h) c_7), fun h => absurd h0 h, hH1.next rfl rfl (Nat.le_refl _) id, Kq.o (Kq.tr (Kq.o Kq.rf (by decide)) hK1) (by decide)⟩, hd.symm⟩ dX8_anew_75 hlocks
  · skip
    refine lv_bipush (v := (-9)) hx hb dX8_anew_7 (by decide) ?_
    exact m_iret (v := (-9)) hx hb hr hK hP hS (by rw [cp_stop (k := fu + 1) (fun h => c_1 (sc_0.mpr h))]; exact ⟨⟨⟨ix, hR, Px.rf⟩, hML, fun h => absurd h (fun h => c_1 (sc_0.mpr h)), fun _ => rfl, HM.rf hh, Kq.rf⟩, rfl⟩) dX8_anew_9 hlocks

