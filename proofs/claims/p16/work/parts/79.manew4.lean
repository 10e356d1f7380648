theorem dX8_beginAnew_0 : decode cX8_beginAnew 0 = .ok (.aload_n 0, 1) := by decide +kernel
theorem dX8_beginAnew_1 : decode cX8_beginAnew 1 = .ok (.dup, 1) := by decide +kernel
theorem dX8_beginAnew_2 : decode cX8_beginAnew 2 = .ok (.getfield 264, 3) := by decide +kernel
theorem dX8_beginAnew_5 : decode cX8_beginAnew 5 = .ok (.iconst 1, 1) := by decide +kernel
theorem dX8_beginAnew_6 : decode cX8_beginAnew 6 = .ok (.iadd, 1) := by decide +kernel
theorem dX8_beginAnew_7 : decode cX8_beginAnew 7 = .ok (.putfield 264, 3) := by decide +kernel
theorem dX8_beginAnew_10 : decode cX8_beginAnew 10 = .ok (.aload_n 0, 1) := by decide +kernel
theorem dX8_beginAnew_11 : decode cX8_beginAnew 11 = .ok (.iload_n 1, 1) := by decide +kernel
theorem dX8_beginAnew_12 : decode cX8_beginAnew 12 = .ok (.iload_n 2, 1) := by decide +kernel
theorem dX8_beginAnew_13 : decode cX8_beginAnew 13 = .ok (.iload_n 3, 1) := by decide +kernel
theorem dX8_beginAnew_14 : decode cX8_beginAnew 14 = .ok (.invokevirtual 251, 3) := by decide +kernel
theorem dX8_beginAnew_17 : decode cX8_beginAnew 17 = .ok (.ireturn, 1) := by decide +kernel
theorem m_anew_all : ∀ fu : Nat, mAnewAt fu := by
  intro fu
  induction fu with
  | zero =>
    intro l G hDD o F z ix lf t lv mm hm tv hR hML hlf hw2 hn hmm hh hb0 hd hfu hh2 hhm htv sz
    exact m_anew_0_w l G hDD o F z ix lf t lv mm hm tv hR hML hlf hw2 hn hmm hh hb0 hd hfu hh2 hhm htv sz
  | succ fu ih =>
    intro l G hDD o F z ix lf t lv mm hm tv hR hML hlf hw2 hn hmm hh hb0 hd hfu hh2 hhm htv sz
    refine m_anew_s l G hDD o F fu z ix lf t lv mm hm tv ?_ hR hML hlf hw2 hn hmm hh hb0 hd hfu hh2 hhm htv sz
    intro l G hDD o F z ix lf t lv mm hm hR hML hlf hw2 hn hmm hh hb0 hd hfu hh2 h0 ht sz
    exact m_anews l G hDD o F fu z ix lf t lv mm hm ih hR hML hlf hw2 hn hmm hh hb0 hd hfu hh2 h0 ht sz

set_option maxHeartbeats 4000000 in
set_option maxRecDepth 100000 in
/-- beginAnew -/
theorem m_beginAnew (l : Launch) (G : mG) (hDD : mDD G) (o : Nat → Int32) (F : Nat → Nat → Int32) (z : aS) (ix : Nat → Nat → Nat) (lf : Nat) (t : Nat) (lv : Nat) (mm : Nat) (hm : Nat) (hR : MR z ix o F) (hN0 : N0 lf F) (hlf : lf + 1 < 2 ^ 31) (hw2 : lv ≤ 100) (hmm : mm ≤ 100) (hh : o 39 = nI hm) (hb0 : bnd (startCp z t 2 mm lv).1 ≤ 200000) (hd : o 33 = nI 0) (hl0 : o 42 = nI lf) (hh2 : hm + 360 ≤ 8000) (h0 : sto z = 0) (ht : t < nT z) (sz : Nat) : Met l yX8_beginAnew (wU yX8_beginAnew cX8_beginAnew 4 (some .int)) { frames := 187, cells := 0, slots := 0, locals := 5145 } (mPc G o F sz [.ref (mh G), .int (nI t), .int (nI mm), .int (nI lv)]) (mQi G sz (fun r u => LQ [7, 8, 9, 10, 11, 12, 13, 14, 15, 16, 17, 18, 19, 20, 21, 24, 27, 33, 38, 39, 40, 41, 42] (MN (lf + 1)) z ix hm 60 o F (startCp z t 2 mm lv) r u ∧ u.1 33 = o 33 ∧ u.1 42 = nI (lf + 1))) 0 0 (mA G sz) := by
  refine Met.ofW (cc := cX8_beginAnew) (maxL := 4) (ret := (some .int)) (by decide) rfl ?_
  intro p e s m args below meth c s₁ B hml hv
  obtain ⟨rfl, hsz, hP, hK⟩ := hv
  have hx := B.exec
  have hb := B.bytes
  have hr := B.returns
  have htu : ∀ w ∈ WU, w.before _ s = true := fun w h => atoms_spec (ws := (wU yX8_beginAnew cX8_beginAnew 4 (some .int))) B.pre w (List.mem_cons_of_mem _ h)
  have hown : s.vm.findClass RX8 = some m.cls := findClass_of_methodNamed B.named
  have hlocks := B.notSynchronized
  subst hsz
  have hS : va_S (mA G s.heap.size) s.heap s.heap [] := va_S.rf
  have hl := lv_entry ([.ref (mh G), .int (nI t), .int (nI mm), .int (nI lv)]) (n := 4) (Nat.le_of_ble_eq_true rfl)
  rw [lg_entry_eq]
  generalize (lg_sl ([.ref (mh G), .int (nI t), .int (nI mm), .int (nI lv)]) ++ List.replicate (4 - (lg_sl ([.ref (mh G), .int (nI t), .int (nI mm), .int (nI lv)])).length) Slot.unset).toArray = ls at hl ⊢
  have hl : lv_has ls 4 [(0, .ref (mh G)), (1, .int (nI t)), (2, .int (nI mm)), (3, .int (nI lv))] := hl
  obtain ⟨H, hHe⟩ : ∃ H : Heap, H = s.heap := ⟨_, rfl⟩
  rw [← hHe] at hP
  have hS : va_S (mA G s.heap.size) s.heap H [] := by rw [hHe]; exact va_S.rf
  refine W.heq hHe ?_
  obtain ⟨b1, b2, b3, b4, b5, b6, b7, b8⟩ := hR.2.1
  refine lv_aload_n hx hb dX8_beginAnew_0 rfl (lv_at hl 0 rfl) ?_
  refine lv_dup hx hb dX8_beginAnew_1 rfl ?_
  refine m_get (v := .int (nI lf)) hx hb htu wu_in hown hK hP 42 (by decide) (htu _ U_56) rfl (m_v hl0) dX8_beginAnew_2 ?_
  refine lv_iconst (v := 1) hx hb dX8_beginAnew_5 (by decide) ?_
  refine lv_iadd hx hb dX8_beginAnew_6 ?_
  refine m_top (y := nI (lf + 1)) (nI_add lf 1) ?_
  refine m_put (ty := .int) (x := nI (lf + 1)) hx hb htu wu_in hown hK hP hDD hS 42 (by decide) (htu _ U_56) rfl rfl (by decide +kernel) rfl rfl (mO_s42 _ _ _) dX8_beginAnew_7 (fun H locs hP hS => ?_)
  refine lv_aload_n hx hb dX8_beginAnew_10 rfl (lv_at hl 0 rfl) ?_
  refine lv_iload_n hx hb dX8_beginAnew_11 rfl (lv_at hl 1 rfl) ?_
  refine lv_iload_n hx hb dX8_beginAnew_12 rfl (lv_at hl 2 rfl) ?_
  refine lv_iload_n hx hb dX8_beginAnew_13 rfl (lv_at hl 3 rfl) ?_
  refine m_ci (m_runV (As := [.int (nI t), .int (nI mm), .int (nI lv)]) (rest := []) ⟨hx, hb, hml, hown, htu⟩ (m_anew_all 60 l G hDD (upd o 42 (nI (lf + 1))) F (newTime z) ix (lf + 1) t lv mm hm (nI t) hR hN0.mn hlf hw2 rfl hmm hh hb0 hd ((Nat.le_refl 60)) ((fun _ => by omega)) ((by omega)) ((fun _ => ⟨rfl, ht⟩)) H.size) (cwV 3 htu gU_X8_anew rfl rfl rfl (by decide +kernel) ⟨Nat.le_of_ble_eq_true rfl, Nat.le_of_ble_eq_true rfl⟩) hP hK rfl hl.1 rfl (lv_room (Nat.le_of_ble_eq_true rfl)) dX8_beginAnew_14) hS (fun r_1 o_2 F_3 H locs hw_4 hP hS => ?_)
  try dsimp only at hw_4
  obtain ⟨⟨⟨ix1, hR1, hP1⟩, hM1, hv1, hs1, hH1, hK1⟩, hd1⟩ := hw_4
  exact m_iret (v := r_1) hx hb hr hK hP hS ⟨⟨⟨ix1, hR1, hP1⟩, hM1, hv1, fun h => absurd h0 h, hH1, Kq.tr (Kq.o Kq.rf (by decide)) (hK1.mono (by decide))⟩, hd1, (hK1 42 (by decide)).1⟩ dX8_beginAnew_17 hlocks

