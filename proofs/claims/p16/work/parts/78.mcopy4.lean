theorem dX8_beginLift_0 : decode cX8_beginLift 0 = .ok (.aload_n 0, 1) := by decide +kernel
theorem dX8_beginLift_1 : decode cX8_beginLift 1 = .ok (.dup, 1) := by decide +kernel
theorem dX8_beginLift_2 : decode cX8_beginLift 2 = .ok (.getfield 232, 3) := by decide +kernel
theorem dX8_beginLift_5 : decode cX8_beginLift 5 = .ok (.iconst 1, 1) := by decide +kernel
theorem dX8_beginLift_6 : decode cX8_beginLift 6 = .ok (.iadd, 1) := by decide +kernel
theorem dX8_beginLift_7 : decode cX8_beginLift 7 = .ok (.putfield 232, 3) := by decide +kernel
theorem dX8_beginLift_10 : decode cX8_beginLift 10 = .ok (.aload_n 0, 1) := by decide +kernel
theorem dX8_beginLift_11 : decode cX8_beginLift 11 = .ok (.iload_n 1, 1) := by decide +kernel
theorem dX8_beginLift_12 : decode cX8_beginLift 12 = .ok (.iload_n 2, 1) := by decide +kernel
theorem dX8_beginLift_13 : decode cX8_beginLift 13 = .ok (.iload_n 3, 1) := by decide +kernel
theorem dX8_beginLift_14 : decode cX8_beginLift 14 = .ok (.aload_n 0, 1) := by decide +kernel
theorem dX8_beginLift_15 : decode cX8_beginLift 15 = .ok (.getfield 232, 3) := by decide +kernel
theorem dX8_beginLift_18 : decode cX8_beginLift 18 = .ok (.invokevirtual 235, 3) := by decide +kernel
theorem dX8_beginLift_21 : decode cX8_beginLift 21 = .ok (.ireturn, 1) := by decide +kernel
theorem m_lift_all : ∀ fu : Nat, mLiftAt fu := by
  intro fu
  induction fu with
  | zero =>
    intro l G hDD o F z ix lf t way mm hm tv hR hML hlf hw2 hmm hh hb0 hd hfu hh2 hhm htv sz
    exact m_lift_0_w l G hDD o F z ix lf t way mm hm tv hR hML hlf hw2 hmm hh hb0 hd hfu hh2 hhm htv sz
  | succ fu ih =>
    intro l G hDD o F z ix lf t way mm hm tv hR hML hlf hw2 hmm hh hb0 hd hfu hh2 hhm htv sz
    refine m_lift_s l G hDD o F fu z ix lf t way mm hm tv ?_ hR hML hlf hw2 hmm hh hb0 hd hfu hh2 hhm htv sz
    intro l G hDD o F z ix lf t way mm hm hR hML hlf hw2 hmm hh hb0 hd hfu hh2 h0 ht sz
    exact m_lifts l G hDD o F fu z ix lf t way mm hm ih hR hML hlf hw2 hmm hh hb0 hd hfu hh2 h0 ht sz

set_option maxHeartbeats 4000000 in
set_option maxRecDepth 100000 in
/-- beginLift -/
theorem m_beginLift (l : Launch) (G : mG) (hDD : mDD G) (o : Nat → Int32) (F : Nat → Nat → Int32) (z : aS) (ix : Nat → Nat → Nat) (lf : Nat) (t : Nat) (way : Nat) (mm : Nat) (hm : Nat) (hR : MR z ix o F) (hM0 : M0 lf F) (hlf : lf + 1 < 2 ^ 31) (hw2 : way < 2) (hmm : mm ≤ 100) (hh : o 39 = nI hm) (hb0 : bnd (startCp z t way mm mm).1 ≤ 200000) (hd : o 32 = nI 0) (hl0 : o 35 = nI lf) (hh2 : hm + 360 ≤ 8000) (h0 : sto z = 0) (ht : t < nT z) (sz : Nat) : Met l yX8_beginLift (wU yX8_beginLift cX8_beginLift 4 (some .int)) { frames := 187, cells := 0, slots := 0, locals := 5145 } (mPc G o F sz [.ref (mh G), .int (nI t), .int (nI way), .int (nI mm)]) (mQi G sz (fun r u => LQ [7, 8, 9, 10, 11, 12, 13, 14, 15, 16, 17, 18, 19, 20, 21, 24, 27, 32, 36, 37, 38, 39, 35] (ML (lf + 1)) z ix hm 60 o F (startCp z t way mm mm) r u ∧ u.1 32 = o 32 ∧ u.1 35 = nI (lf + 1))) 0 0 (mA G sz) := by
  refine Met.ofW (cc := cX8_beginLift) (maxL := 4) (ret := (some .int)) (by decide) rfl ?_
  intro p e s m args below meth c s₁ B hml hv
  obtain ⟨rfl, hsz, hP, hK⟩ := hv
  have hx := B.exec
  have hb := B.bytes
  have hr := B.returns
  have htu : ∀ w ∈ WU, w.before _ s = true := fun w h => atoms_spec (ws := (wU yX8_beginLift cX8_beginLift 4 (some .int))) B.pre w (List.mem_cons_of_mem _ h)
  have hown : s.vm.findClass RX8 = some m.cls := findClass_of_methodNamed B.named
  have hlocks := B.notSynchronized
  subst hsz
  have hS : va_S (mA G s.heap.size) s.heap s.heap [] := va_S.rf
  have hl := lv_entry ([.ref (mh G), .int (nI t), .int (nI way), .int (nI mm)]) (n := 4) (Nat.le_of_ble_eq_true rfl)
  rw [lg_entry_eq]
  generalize (lg_sl ([.ref (mh G), .int (nI t), .int (nI way), .int (nI mm)]) ++ List.replicate (4 - (lg_sl ([.ref (mh G), .int (nI t), .int (nI way), .int (nI mm)])).length) Slot.unset).toArray = ls at hl ⊢
  have hl : lv_has ls 4 [(0, .ref (mh G)), (1, .int (nI t)), (2, .int (nI way)), (3, .int (nI mm))] := hl
  obtain ⟨H, hHe⟩ : ∃ H : Heap, H = s.heap := ⟨_, rfl⟩
  rw [← hHe] at hP
  have hS : va_S (mA G s.heap.size) s.heap H [] := by rw [hHe]; exact va_S.rf
  refine W.heq hHe ?_
  obtain ⟨b1, b2, b3, b4, b5, b6, b7, b8⟩ := hR.2.1
  refine lv_aload_n hx hb dX8_beginLift_0 rfl (lv_at hl 0 rfl) ?_
  refine lv_dup hx hb dX8_beginLift_1 rfl ?_
  refine m_get (v := .int (nI lf)) hx hb htu wu_in hown hK hP 35 (by decide) (htu _ U_55) rfl (m_v hl0) dX8_beginLift_2 ?_
  refine lv_iconst (v := 1) hx hb dX8_beginLift_5 (by decide) ?_
  refine lv_iadd hx hb dX8_beginLift_6 ?_
  refine m_top (y := nI (lf + 1)) (nI_add lf 1) ?_
  refine m_put (ty := .int) (x := nI (lf + 1)) hx hb htu wu_in hown hK hP hDD hS 35 (by decide) (htu _ U_55) rfl rfl (by decide +kernel) rfl rfl (mO_s35 _ _ _) dX8_beginLift_7 (fun H locs hP hS => ?_)
  refine lv_aload_n hx hb dX8_beginLift_10 rfl (lv_at hl 0 rfl) ?_
  refine lv_iload_n hx hb dX8_beginLift_11 rfl (lv_at hl 1 rfl) ?_
  refine lv_iload_n hx hb dX8_beginLift_12 rfl (lv_at hl 2 rfl) ?_
  refine lv_iload_n hx hb dX8_beginLift_13 rfl (lv_at hl 3 rfl) ?_
  refine lv_aload_n hx hb dX8_beginLift_14 rfl (lv_at hl 0 rfl) ?_
  refine m_get (v := .int (nI (lf + 1))) hx hb htu wu_in hown hK hP 35 (by decide) (htu _ U_55) rfl rfl dX8_beginLift_15 ?_
  refine m_ci (m_runV (As := [.int (nI t), .int (nI way), .int (nI mm), .int (nI (lf + 1))]) (rest := []) ⟨hx, hb, hml, hown, htu⟩ (m_lift_all 60 l G hDD (upd o 35 (nI (lf + 1))) F (newTime z) ix (lf + 1) t way mm hm (nI t) hR hM0.ml hlf hw2 hmm hh hb0 hd ((Nat.le_refl 60)) ((fun _ => by omega)) ((by omega)) ((fun _ => ⟨rfl, ht⟩)) H.size) (cwV 4 htu gU_X8_lift rfl rfl rfl (by decide +kernel) ⟨Nat.le_of_ble_eq_true rfl, Nat.le_of_ble_eq_true rfl⟩) hP hK rfl hl.1 rfl (lv_room (Nat.le_of_ble_eq_true rfl)) dX8_beginLift_18) hS (fun r_1 o_2 F_3 H locs hw_4 hP hS => ?_)
  try dsimp only at hw_4
  obtain ⟨⟨⟨ix1, hR1, hP1⟩, hM1, hv1, hs1, hH1, hK1⟩, hd1⟩ := hw_4
  exact m_iret (v := r_1) hx hb hr hK hP hS ⟨⟨⟨ix1, hR1, hP1⟩, hM1, hv1, fun h => absurd h0 h, hH1, Kq.tr (Kq.o Kq.rf (by decide)) (hK1.mono (by decide))⟩, hd1, (hK1 35 (by decide)).1⟩ dX8_beginLift_21 hlocks

