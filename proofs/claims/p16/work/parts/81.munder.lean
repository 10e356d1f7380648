theorem dX8_under_0 : decode cX8_under 0 = .ok (.aload_n 0, 1) := by decide +kernel
theorem dX8_under_1 : decode cX8_under 1 = .ok (.getfield 184, 3) := by decide +kernel
theorem dX8_under_4 : decode cX8_under 4 = .ok (.ifCond .eq 4, 3) := by decide +kernel
theorem dX8_under_8 : decode cX8_under 8 = .ok (.aload_n 0, 1) := by decide +kernel
theorem dX8_under_9 : decode cX8_under 9 = .ok (.getfield 181, 3) := by decide +kernel
theorem dX8_under_12 : decode cX8_under 12 = .ok (.sipush 1500, 3) := by decide +kernel
theorem dX8_under_15 : decode cX8_under 15 = .ok (.if_icmp .ne 14, 3) := by decide +kernel
theorem dX8_under_29 : decode cX8_under 29 = .ok (.aload_n 0, 1) := by decide +kernel
theorem dX8_under_30 : decode cX8_under 30 = .ok (.dup, 1) := by decide +kernel
theorem dX8_under_31 : decode cX8_under 31 = .ok (.getfield 181, 3) := by decide +kernel
theorem dX8_under_34 : decode cX8_under 34 = .ok (.iconst 1, 1) := by decide +kernel
theorem dX8_under_35 : decode cX8_under 35 = .ok (.iadd, 1) := by decide +kernel
theorem dX8_under_36 : decode cX8_under 36 = .ok (.putfield 181, 3) := by decide +kernel
theorem dX8_under_39 : decode cX8_under 39 = .ok (.aload_n 0, 1) := by decide +kernel
theorem dX8_under_40 : decode cX8_under 40 = .ok (.getfield 190, 3) := by decide +kernel
theorem dX8_under_43 : decode cX8_under 43 = .ok (.bipush 60, 2) := by decide +kernel
theorem dX8_under_45 : decode cX8_under 45 = .ok (.if_icmp .ne 14, 3) := by decide +kernel
theorem dX8_under_48 : decode cX8_under 48 = .ok (.aload_n 0, 1) := by decide +kernel
theorem dX8_under_49 : decode cX8_under 49 = .ok (.bipush (-6), 2) := by decide +kernel
theorem dX8_under_51 : decode cX8_under 51 = .ok (.aload_n 0, 1) := by decide +kernel
theorem dX8_under_52 : decode cX8_under 52 = .ok (.getfield 202, 3) := by decide +kernel
theorem dX8_under_55 : decode cX8_under 55 = .ok (.invokevirtual 205, 3) := by decide +kernel
theorem dX8_under_58 : decode cX8_under 58 = .ok (.return_, 1) := by decide +kernel
theorem dX8_under_18 : decode cX8_under 18 = .ok (.aload_n 0, 1) := by decide +kernel
theorem dX8_under_19 : decode cX8_under 19 = .ok (.bipush (-6), 2) := by decide +kernel
theorem dX8_under_21 : decode cX8_under 21 = .ok (.aload_n 0, 1) := by decide +kernel
theorem dX8_under_22 : decode cX8_under 22 = .ok (.getfield 202, 3) := by decide +kernel
theorem dX8_under_25 : decode cX8_under 25 = .ok (.invokevirtual 205, 3) := by decide +kernel
theorem dX8_under_28 : decode cX8_under 28 = .ok (.return_, 1) := by decide +kernel
theorem dX8_under_7 : decode cX8_under 7 = .ok (.return_, 1) := by decide +kernel
theorem dX8_under_59 : decode cX8_under 59 = .ok (.aload_n 0, 1) := by decide +kernel
theorem dX8_under_60 : decode cX8_under 60 = .ok (.iload_n 1, 1) := by decide +kernel
theorem dX8_under_61 : decode cX8_under 61 = .ok (.iload_n 2, 1) := by decide +kernel
theorem dX8_under_62 : decode cX8_under 62 = .ok (.invokevirtual 212, 3) := by decide +kernel
theorem dX8_under_65 : decode cX8_under 65 = .ok (.ifCond .eq 4, 3) := by decide +kernel
theorem dX8_under_68 : decode cX8_under 68 = .ok (.return_, 1) := by decide +kernel
theorem dX8_under_69 : decode cX8_under 69 = .ok (.aload_n 0, 1) := by decide +kernel
theorem dX8_under_70 : decode cX8_under 70 = .ok (.getfield 65, 3) := by decide +kernel
theorem dX8_under_73 : decode cX8_under 73 = .ok (.aload_n 0, 1) := by decide +kernel
theorem dX8_under_74 : decode cX8_under 74 = .ok (.getfield 187, 3) := by decide +kernel
theorem dX8_under_77 : decode cX8_under 77 = .ok (.iload_n 1, 1) := by decide +kernel
theorem dX8_under_78 : decode cX8_under 78 = .ok (.iastore, 1) := by decide +kernel
theorem dX8_under_79 : decode cX8_under 79 = .ok (.aload_n 0, 1) := by decide +kernel
theorem dX8_under_80 : decode cX8_under 80 = .ok (.getfield 68, 3) := by decide +kernel
theorem dX8_under_83 : decode cX8_under 83 = .ok (.aload_n 0, 1) := by decide +kernel
theorem dX8_under_84 : decode cX8_under 84 = .ok (.getfield 187, 3) := by decide +kernel
theorem dX8_under_87 : decode cX8_under 87 = .ok (.iload_n 2, 1) := by decide +kernel
theorem dX8_under_88 : decode cX8_under 88 = .ok (.iastore, 1) := by decide +kernel
theorem dX8_under_89 : decode cX8_under 89 = .ok (.aload_n 0, 1) := by decide +kernel
theorem dX8_under_90 : decode cX8_under 90 = .ok (.dup, 1) := by decide +kernel
theorem dX8_under_91 : decode cX8_under 91 = .ok (.getfield 187, 3) := by decide +kernel
theorem dX8_under_94 : decode cX8_under 94 = .ok (.iconst 1, 1) := by decide +kernel
theorem dX8_under_95 : decode cX8_under 95 = .ok (.iadd, 1) := by decide +kernel
theorem dX8_under_96 : decode cX8_under 96 = .ok (.putfield 187, 3) := by decide +kernel
theorem dX8_under_99 : decode cX8_under 99 = .ok (.aload_n 0, 1) := by decide +kernel
theorem dX8_under_100 : decode cX8_under 100 = .ok (.dup, 1) := by decide +kernel
theorem dX8_under_101 : decode cX8_under 101 = .ok (.getfield 190, 3) := by decide +kernel
theorem dX8_under_104 : decode cX8_under 104 = .ok (.iconst 1, 1) := by decide +kernel
theorem dX8_under_105 : decode cX8_under 105 = .ok (.iadd, 1) := by decide +kernel
theorem dX8_under_106 : decode cX8_under 106 = .ok (.putfield 190, 3) := by decide +kernel
theorem dX8_under_109 : decode cX8_under 109 = .ok (.aload_n 0, 1) := by decide +kernel
theorem dX8_under_110 : decode cX8_under 110 = .ok (.iload_n 1, 1) := by decide +kernel
theorem dX8_under_111 : decode cX8_under 111 = .ok (.iload_n 2, 1) := by decide +kernel
theorem dX8_under_112 : decode cX8_under 112 = .ok (.invokevirtual 215, 3) := by decide +kernel
theorem dX8_under_115 : decode cX8_under 115 = .ok (.aload_n 0, 1) := by decide +kernel
theorem dX8_under_116 : decode cX8_under 116 = .ok (.dup, 1) := by decide +kernel
theorem dX8_under_117 : decode cX8_under 117 = .ok (.getfield 190, 3) := by decide +kernel
theorem dX8_under_120 : decode cX8_under 120 = .ok (.iconst 1, 1) := by decide +kernel
theorem dX8_under_121 : decode cX8_under 121 = .ok (.isub, 1) := by decide +kernel
theorem dX8_under_122 : decode cX8_under 122 = .ok (.putfield 190, 3) := by decide +kernel
theorem dX8_under_125 : decode cX8_under 125 = .ok (.return_, 1) := by decide +kernel
def mUnderAt (fu : Nat) : Prop := ∀ (l : Launch) (G : mG) (hDD : mDD G) (o : Nat → Int32) (F : Nat → Nat → Int32) (z : aS) (ix : Nat → Nat → Nat) (lf : Nat) (a : Nat) (b : Nat) (hm : Nat) (av : Int32) (bv : Int32) (hR : MR z ix o F) (hM0 : M0 lf F) (hl0 : o 35 = nI lf) (hh : o 39 = nI hm) (hhm : hm ≤ 100000) (hh2 : sto z = 0 → hm + 360 ≤ 8000) (hd2 : o 32 = nI 0) (hb0 : bnd (un fu z a b) ≤ 200000) (hlf : lf ≤ stp z) (hd : o 31 = nI (60 - fu)) (hfu : fu ≤ 60) (hab : sto z = 0 → av = nI a ∧ bv = nI b ∧ a < nT z ∧ b < nT z) (sz : Nat), Met l yX8_under (wU yX8_under cX8_under 3 none) { frames := 2 * fu + 190, cells := 0, slots := 0, locals := 60 * fu + 5300 } (mPc G o F sz [.ref (mh G), .int av, .int bv]) (mQv G sz (fun u => UQ [7, 8, 9, 10, 11, 12, 13, 14, 15, 16, 17, 18, 19, 20, 21, 24, 26, 27, 28, 29, 30, 31, 32, 35, 36, 37, 38, 39] z ix hm o F (un fu z a b) u)) 0 0 (mA G sz)

def mAsksAt (fu : Nat) : Prop := ∀ (l : Launch) (G : mG) (hDD : mDD G) (o : Nat → Int32) (F : Nat → Nat → Int32) (z : aS) (ix : Nat → Nat → Nat) (lf : Nat) (a : Nat) (b : Nat) (hm : Nat) (hR : MR z ix o F) (hM0 : M0 lf F) (hl0 : o 35 = nI lf) (hh : o 39 = nI hm) (hhm : hm ≤ 100000) (hh2 : sto z = 0 → hm + 360 ≤ 8000) (hd2 : o 32 = nI 0) (hb0 : bnd (asks (un fu) z a b) ≤ 200000) (hlf : lf + 1 ≤ stp z) (hd : o 31 = nI (60 - fu)) (hfu : fu ≤ 60) (h0 : sto z = 0) (ha1 : a < nT z) (hb1 : b < nT z) (sz : Nat), Met l yX8_asks (wU yX8_asks cX8_asks 8 none) { frames := 2 * fu + 191, cells := 0, slots := 0, locals := 60 * fu + 5330 } (mPc G o F sz [.ref (mh G), .int (nI a), .int (nI b)]) (mQv G sz (fun u => UQ [7, 8, 9, 10, 11, 12, 13, 14, 15, 16, 17, 18, 19, 20, 21, 24, 26, 27, 28, 29, 30, 31, 32, 35, 36, 37, 38, 39] z ix hm o F (asks (un fu) z a b) u)) 0 0 (mA G sz)

set_option maxHeartbeats 4000000 in
set_option maxRecDepth 100000 in
/-- under, too deep -/
theorem m_under_0 (l : Launch) (G : mG) (hDD : mDD G) (o : Nat → Int32) (F : Nat → Nat → Int32) (z : aS) (ix : Nat → Nat → Nat) (lf : Nat) (a : Nat) (b : Nat) (hm : Nat) (av : Int32) (bv : Int32) (hR : MR z ix o F) (hM0 : M0 lf F) (hl0 : o 35 = nI lf) (hh : o 39 = nI hm) (hhm : hm ≤ 100000) (hh2 : sto z = 0 → hm + 360 ≤ 8000) (hd2 : o 32 = nI 0) (hb0 : bnd (un 0 z a b) ≤ 200000) (hlf : lf ≤ stp z) (hd : o 31 = nI (60 - 0)) (hfu : 0 ≤ 60) (hab : sto z = 0 → av = nI a ∧ bv = nI b ∧ a < nT z ∧ b < nT z) (sz : Nat) : Met l yX8_under (wU yX8_under cX8_under 3 none) { frames := 2 * 0 + 190, cells := 0, slots := 0, locals := 60 * 0 + 5300 } (mPc G o F sz [.ref (mh G), .int av, .int bv]) (mQv G sz (fun u => UQ [7, 8, 9, 10, 11, 12, 13, 14, 15, 16, 17, 18, 19, 20, 21, 24, 26, 27, 28, 29, 30, 31, 32, 35, 36, 37, 38, 39] z ix hm o F (un 0 z a b) u)) 0 0 (mA G sz) := by
  refine Met.ofW (cc := cX8_under) (maxL := 3) (ret := none) (by decide) rfl ?_
  intro p e s m args below meth c s₁ B hml hv
  obtain ⟨rfl, hsz, hP, hK⟩ := hv
  have hx := B.exec
  have hb := B.bytes
  have hr := B.returns
  have htu : ∀ w ∈ WU, w.before _ s = true := fun w h => atoms_spec (ws := (wU yX8_under cX8_under 3 none)) B.pre w (List.mem_cons_of_mem _ h)
  have hown : s.vm.findClass RX8 = some m.cls := findClass_of_methodNamed B.named
  have hlocks := B.notSynchronized
  subst hsz
  have hS : va_S (mA G s.heap.size) s.heap s.heap [] := va_S.rf
  have hl := lv_entry ([.ref (mh G), .int av, .int bv]) (n := 3) (Nat.le_of_ble_eq_true rfl)
  rw [lg_entry_eq]
  generalize (lg_sl ([.ref (mh G), .int av, .int bv]) ++ List.replicate (3 - (lg_sl ([.ref (mh G), .int av, .int bv])).length) Slot.unset).toArray = ls at hl ⊢
  have hl : lv_has ls 3 [(0, .ref (mh G)), (1, .int av), (2, .int bv)] := hl
  obtain ⟨H, hHe⟩ : ∃ H : Heap, H = s.heap := ⟨_, rfl⟩
  rw [← hHe] at hP
  have hS : va_S (mA G s.heap.size) s.heap H [] := by rw [hHe]; exact va_S.rf
  refine W.heq hHe ?_
  obtain ⟨b1, b2, b3, b4, b5, b6, b7, b8⟩ := hR.2.1
  refine lv_aload_n hx hb dX8_under_0 rfl (lv_at hl 0 rfl) ?_
  refine m_get (v := .int (sc (sto z))) hx hb htu wu_in hown hK hP 27 (by decide) (htu _ U_45) rfl (m_v hR.1.2.2.2.2.1) dX8_under_1 ?_
  refine lv_if_eq (tgt := 8) hx hb dX8_under_4 (by decide) (fun c_1 => ?_) (fun c_1 => ?_)
  · skip
    have h0 : sto z = 0 := sc_0.mp c_1
    obtain ⟨rfl, rfl, ha1, hb1⟩ := hab h0
    refine lv_aload_n hx hb dX8_under_8 rfl (lv_at hl 0 rfl) ?_
    refine m_get (v := .int (nI (stp z))) hx hb htu wu_in hown hK hP 26 (by decide) (htu _ U_44) rfl (m_v hR.1.2.2.2.1) dX8_under_9 ?_
    refine lv_sipush (v := 1500) hx hb dX8_under_12 (by decide) ?_
    refine lv_icmp_ne (tgt := 29) hx hb dX8_under_15 (by decide) (fun c_2 => ?_) (fun c_2 => ?_)
    · skip
      have nc_2 : ¬ stp z = 1500 := fun h9 => c_2 ((nI_eq (a := stp z) (b := 1500) (by omega) (by omega)).mpr h9)
      have ns : stp z ≠ 1500 := nc_2
      refine lv_aload_n hx hb dX8_under_29 rfl (lv_at hl 0 rfl) ?_
      refine lv_dup hx hb dX8_under_30 rfl ?_
      refine m_get (v := .int (nI (stp z))) hx hb htu wu_in hown hK hP 26 (by decide) (htu _ U_44) rfl (m_v hR.1.2.2.2.1) dX8_under_31 ?_
      refine lv_iconst (v := 1) hx hb dX8_under_34 (by decide) ?_
      refine lv_iadd hx hb dX8_under_35 ?_
      refine m_top (y := nI (stp z + 1)) (nI_add (stp z) 1) ?_
      refine m_put (ty := .int) (x := nI (stp z + 1)) hx hb htu wu_in hown hK hP hDD hS 26 (by decide) (htu _ U_44) rfl rfl (by decide +kernel) rfl rfl (mO_s26 _ _ _) dX8_under_36 (fun H locs hP hS => ?_)
      refine lv_aload_n hx hb dX8_under_39 rfl (lv_at hl 0 rfl) ?_
      refine m_get (v := .int 60) hx hb htu wu_in hown hK hP 31 (by decide) (htu _ U_47) rfl (m_v hd) dX8_under_40 ?_
      refine lv_bipush (v := 60) hx hb dX8_under_43 (by decide) ?_
      refine lv_icmp_ne (tgt := 59) hx hb dX8_under_45 (by decide) (fun c_3 => absurd (by decide) c_3) (fun c_3 => ?_)
      refine lv_aload_n hx hb dX8_under_48 rfl (lv_at hl 0 rfl) ?_
      refine lv_bipush (v := (-6)) hx hb dX8_under_49 (by decide) ?_
      refine lv_aload_n hx hb dX8_under_51 rfl (lv_at hl 0 rfl) ?_
      refine m_get (v := .int (nI (askn z))) hx hb htu wu_in hown hK hP 25 (by decide) (htu _ U_61) rfl (m_v hR.1.2.2.2.2.2.2.1) dX8_under_52 ?_
      refine m_cv (m_runV (As := [.int ((-6)), .int (nI (askn z))]) (rest := []) ⟨hx, hb, hml, hown, htu⟩ (m_stops l G hDD (upd o 26 (nI (stp z + 1))) F ((w1 z 0 2 (stp z + 1))) ix 1 ((askn z)) ((hR.r_step ns)) ((Or.inl rfl)) ((by omega)) H.size) (cwV 2 htu gU_X8_stops rfl rfl rfl (by decide +kernel) ⟨show 0 + 1 ≤ 2 * 0 + 190 by omega, show 8 + (3 + 11) + 0 ≤ 60 * 0 + 5300 by omega⟩) hP hK rfl hl.1 rfl (lv_room (Nat.le_of_ble_eq_true rfl)) dX8_under_55) hS (fun o_5 F_6 H locs hw_7 hP hS => ?_)
      try dsimp only at hw_7
      exact m_vret hx hb hr hK hP hS (by rw [un_0 h0 ns]; exact ⟨⟨ix, lf, hw_7.1, Px.rf, hM0.to (hw_7.2 36 (by decide)).2, (hw_7.2 35 (by decide)).1.trans hl0, Nat.le_trans (show lf ≤ stp z + 1 by omega) (x_stops (w1 z 0 2 (stp z + 1)) _ _).2.2.2.2.2⟩, fun h => absurd h0 h, HM.own hh (hw_7.2 39 (by decide)).1 (hw_7.2 38 (by decide)).2, (hw_7.2 31 (by decide)).1, (hw_7.2 32 (by decide)).1, Kq.tr (Kq.o Kq.rf (by decide)) (hw_7.2.mono (by decide))⟩) dX8_under_58 hlocks
    · skip
      have nc_2 : stp z = 1500 := (nI_eq (a := stp z) (b := 1500) (by omega) (by omega)).mp c_2
      refine lv_aload_n hx hb dX8_under_18 rfl (lv_at hl 0 rfl) ?_
      refine lv_bipush (v := (-6)) hx hb dX8_under_19 (by decide) ?_
      refine lv_aload_n hx hb dX8_under_21 rfl (lv_at hl 0 rfl) ?_
      refine m_get (v := .int (nI (askn z))) hx hb htu wu_in hown hK hP 25 (by decide) (htu _ U_61) rfl (m_v hR.1.2.2.2.2.2.2.1) dX8_under_22 ?_
      refine m_cv (m_runV (As := [.int ((-6)), .int (nI (askn z))]) (rest := []) ⟨hx, hb, hml, hown, htu⟩ (m_stops l G hDD o F z ix 1 ((askn z)) hR ((Or.inl rfl)) ((by omega)) H.size) (cwV 2 htu gU_X8_stops rfl rfl rfl (by decide +kernel) ⟨show 0 + 1 ≤ 2 * 0 + 190 by omega, show 8 + (3 + 11) + 0 ≤ 60 * 0 + 5300 by omega⟩) hP hK rfl hl.1 rfl (lv_room (Nat.le_of_ble_eq_true rfl)) dX8_under_25) hS (fun o_9 F_10 H locs hw_11 hP hS => ?_)
      try dsimp only at hw_11
      exact m_vret hx hb hr hK hP hS (by rw [un_sp h0 (show stp z = 1500 from nc_2)]; exact ⟨⟨ix, lf, hw_11.1, Px.rf, hM0.to (hw_11.2 36 (by decide)).2, (hw_11.2 35 (by decide)).1.trans hl0, Nat.le_trans hlf (x_stops _ _ _).2.2.2.2.2⟩, fun h => absurd h0 h, HM.own hh (hw_11.2 39 (by decide)).1 (hw_11.2 38 (by decide)).2, (hw_11.2 31 (by decide)).1, (hw_11.2 32 (by decide)).1, hw_11.2.mono (by decide)⟩) dX8_under_28 hlocks
  · skip
    exact m_vret hx hb hr hK hP hS (by rw [un_st (k := 0) (fun h => c_1 (sc_0.mpr h))]; exact ⟨⟨ix, lf, hR, Px.rf, hM0, hl0, hlf⟩, fun _ => rfl, HM.rf hh, rfl, rfl, Kq.rf⟩) dX8_under_7 hlocks

set_option maxHeartbeats 4000000 in
set_option maxRecDepth 100000 in
/-- under, one deeper -/
theorem m_under_s (l : Launch) (G : mG) (hDD : mDD G) (o : Nat → Int32) (F : Nat → Nat → Int32) (fu : Nat) (z : aS) (ix : Nat → Nat → Nat) (lf : Nat) (a : Nat) (b : Nat) (hm : Nat) (av : Int32) (bv : Int32) (hA : mAsksAt fu) (hR : MR z ix o F) (hM0 : M0 lf F) (hl0 : o 35 = nI lf) (hh : o 39 = nI hm) (hhm : hm ≤ 100000) (hh2 : sto z = 0 → hm + 360 ≤ 8000) (hd2 : o 32 = nI 0) (hb0 : bnd (un (fu + 1) z a b) ≤ 200000) (hlf : lf ≤ stp z) (hd : o 31 = nI (60 - (fu + 1))) (hfu : fu + 1 ≤ 60) (hab : sto z = 0 → av = nI a ∧ bv = nI b ∧ a < nT z ∧ b < nT z) (sz : Nat) : Met l yX8_under (wU yX8_under cX8_under 3 none) { frames := 2 * (fu + 1) + 190, cells := 0, slots := 0, locals := 60 * (fu + 1) + 5300 } (mPc G o F sz [.ref (mh G), .int av, .int bv]) (mQv G sz (fun u => UQ [7, 8, 9, 10, 11, 12, 13, 14, 15, 16, 17, 18, 19, 20, 21, 24, 26, 27, 28, 29, 30, 31, 32, 35, 36, 37, 38, 39] z ix hm o F (un (fu + 1) z a b) u)) 0 0 (mA G sz) := by
  refine Met.ofW (cc := cX8_under) (maxL := 3) (ret := none) (by decide) rfl ?_
  intro p e s m args below meth c s₁ B hml hv
  obtain ⟨rfl, hsz, hP, hK⟩ := hv
  have hx := B.exec
  have hb := B.bytes
  have hr := B.returns
  have htu : ∀ w ∈ WU, w.before _ s = true := fun w h => atoms_spec (ws := (wU yX8_under cX8_under 3 none)) B.pre w (List.mem_cons_of_mem _ h)
  have hown : s.vm.findClass RX8 = some m.cls := findClass_of_methodNamed B.named
  have hlocks := B.notSynchronized
  subst hsz
  have hS : va_S (mA G s.heap.size) s.heap s.heap [] := va_S.rf
  have hl := lv_entry ([.ref (mh G), .int av, .int bv]) (n := 3) (Nat.le_of_ble_eq_true rfl)
  rw [lg_entry_eq]
  generalize (lg_sl ([.ref (mh G), .int av, .int bv]) ++ List.replicate (3 - (lg_sl ([.ref (mh G), .int av, .int bv])).length) Slot.unset).toArray = ls at hl ⊢
  have hl : lv_has ls 3 [(0, .ref (mh G)), (1, .int av), (2, .int bv)] := hl
  obtain ⟨H, hHe⟩ : ∃ H : Heap, H = s.heap := ⟨_, rfl⟩
  rw [← hHe] at hP
  have hS : va_S (mA G s.heap.size) s.heap H [] := by rw [hHe]; exact va_S.rf
  refine W.heq hHe ?_
  obtain ⟨b1, b2, b3, b4, b5, b6, b7, b8⟩ := hR.2.1
  refine lv_aload_n hx hb dX8_under_0 rfl (lv_at hl 0 rfl) ?_
  refine m_get (v := .int (sc (sto z))) hx hb htu wu_in hown hK hP 27 (by decide) (htu _ U_45) rfl (m_v hR.1.2.2.2.2.1) dX8_under_1 ?_
  refine lv_if_eq (tgt := 8) hx hb dX8_under_4 (by decide) (fun c_1 => ?_) (fun c_1 => ?_)
  · skip
    have h0 : sto z = 0 := sc_0.mp c_1
    obtain ⟨rfl, rfl, ha1, hb1⟩ := hab h0
    refine lv_aload_n hx hb dX8_under_8 rfl (lv_at hl 0 rfl) ?_
    refine m_get (v := .int (nI (stp z))) hx hb htu wu_in hown hK hP 26 (by decide) (htu _ U_44) rfl (m_v hR.1.2.2.2.1) dX8_under_9 ?_
    refine lv_sipush (v := 1500) hx hb dX8_under_12 (by decide) ?_
    refine lv_icmp_ne (tgt := 29) hx hb dX8_under_15 (by decide) (fun c_2 => ?_) (fun c_2 => ?_)
    · skip
      have nc_2 : ¬ stp z = 1500 := fun h9 => c_2 ((nI_eq (a := stp z) (b := 1500) (by omega) (by omega)).mpr h9)
      have ns : stp z ≠ 1500 := nc_2
      refine lv_aload_n hx hb dX8_under_29 rfl (lv_at hl 0 rfl) ?_
      refine lv_dup hx hb dX8_under_30 rfl ?_
      refine m_get (v := .int (nI (stp z))) hx hb htu wu_in hown hK hP 26 (by decide) (htu _ U_44) rfl (m_v hR.1.2.2.2.1) dX8_under_31 ?_
      refine lv_iconst (v := 1) hx hb dX8_under_34 (by decide) ?_
      refine lv_iadd hx hb dX8_under_35 ?_
      refine m_top (y := nI (stp z + 1)) (nI_add (stp z) 1) ?_
      refine m_put (ty := .int) (x := nI (stp z + 1)) hx hb htu wu_in hown hK hP hDD hS 26 (by decide) (htu _ U_44) rfl rfl (by decide +kernel) rfl rfl (mO_s26 _ _ _) dX8_under_36 (fun H locs hP hS => ?_)
      refine lv_aload_n hx hb dX8_under_39 rfl (lv_at hl 0 rfl) ?_
      refine m_get (v := .int (nI (60 - (fu + 1)))) hx hb htu wu_in hown hK hP 31 (by decide) (htu _ U_47) rfl (m_v hd) dX8_under_40 ?_
      refine lv_bipush (v := 60) hx hb dX8_under_43 (by decide) ?_
      refine lv_icmp_ne (tgt := 59) hx hb dX8_under_45 (by decide) (fun c_3 => ?_) (fun c_3 => absurd c_3 (fun h9 => absurd ((nI_eq (b := 60) (by omega) (by omega)).mp h9) (by omega)))
      refine lv_aload_n hx hb dX8_under_59 rfl (lv_at hl 0 rfl) ?_
      refine lv_iload_n hx hb dX8_under_60 rfl (lv_at hl 1 rfl) ?_
      refine lv_iload_n hx hb dX8_under_61 rfl (lv_at hl 2 rfl) ?_
      refine m_ci (m_runV (As := [.int (nI a), .int (nI b)]) (rest := []) ⟨hx, hb, hml, hown, htu⟩ (m_wasAsked l G hDD (upd o 26 (nI (stp z + 1))) F ((w1 z 0 2 (stp z + 1))) ix a b ((hR.r_step ns)) ha1 hb1 H.size) (cwV 2 htu gU_X8_wasAsked rfl rfl rfl (by decide +kernel) ⟨show 0 + 1 ≤ 2 * (fu + 1) + 190 by omega, show 8 + (4 + 11) + 0 ≤ 60 * (fu + 1) + 5300 by omega⟩) hP hK rfl hl.1 rfl (lv_room (Nat.le_of_ble_eq_true rfl)) dX8_under_62) hS (fun r_4 o_5 F_6 H locs hw_7 hP hS => ?_)
      try dsimp only at hw_7
      obtain ⟨hu, hc⟩ := hw_7
      rcases hc with ⟨g1, g2⟩ | ⟨g1, g2⟩
      · skip
        subst g1
        obtain ⟨h91, h92⟩ := Prod.mk.inj hu
        subst h91
        have h92 := h92.symm
        subst h92
        refine lv_if_eq (tgt := 69) hx hb dX8_under_65 (by decide) (fun c_8 => absurd c_8 (by decide)) (fun c_8 => ?_)
        exact m_vret hx hb hr hK hP hS (by rw [un_as h0 ns g2]; exact ⟨⟨ix, lf, hR.r_step ns, Px.rf, hM0, hl0, show lf ≤ stp z + 1 by omega⟩, fun h => absurd h0 h, HM.own hh rfl rfl, rfl, rfl, (Kq.o Kq.rf (by decide))⟩) dX8_under_68 hlocks
      · skip
        subst g1
        obtain ⟨h91, h92⟩ := Prod.mk.inj hu
        subst h91
        have h92 := h92.symm
        subst h92
        refine lv_if_eq (tgt := 69) hx hb dX8_under_65 (by decide) (fun c_9 => ?_) (fun c_9 => absurd (by decide) c_9)
        refine lv_aload_n hx hb dX8_under_69 rfl (lv_at hl 0 rfl) ?_
        refine m_get (v := .ref (md G 29)) hx hb htu wu_in hown hK hP 29 (by decide) (htu _ U_159) rfl rfl dX8_under_70 ?_
        refine lv_aload_n hx hb dX8_under_73 rfl (lv_at hl 0 rfl) ?_
        refine m_get (v := .int (nI (z.2.2.length))) hx hb htu wu_in hown hK hP 28 (by decide) (htu _ U_46) rfl (m_v hR.1.2.2.2.2.2.2.2) dX8_under_74 ?_
        refine lv_iload_n hx hb dX8_under_77 rfl (lv_at hl 1 rfl) ?_
        refine m_ast (j := z.2.2.length) (x := nI a) hx hb hK hP hDD hS 19 29 rfl (by omega) (by decide) (mW_a29 _ _ _ _ _) dX8_under_78 (fun H locs hP hS => ?_)
        refine lv_aload_n hx hb dX8_under_79 rfl (lv_at hl 0 rfl) ?_
        refine m_get (v := .ref (md G 30)) hx hb htu wu_in hown hK hP 30 (by decide) (htu _ U_160) rfl rfl dX8_under_80 ?_
        refine lv_aload_n hx hb dX8_under_83 rfl (lv_at hl 0 rfl) ?_
        refine m_get (v := .int (nI (z.2.2.length))) hx hb htu wu_in hown hK hP 28 (by decide) (htu _ U_46) rfl (m_v hR.1.2.2.2.2.2.2.2) dX8_under_84 ?_
        refine lv_iload_n hx hb dX8_under_87 rfl (lv_at hl 2 rfl) ?_
        refine m_ast (j := z.2.2.length) (x := nI b) hx hb hK hP hDD hS 20 30 rfl (by omega) (by decide) (mW_a30 _ _ _ _ _) dX8_under_88 (fun H locs hP hS => ?_)
        refine lv_aload_n hx hb dX8_under_89 rfl (lv_at hl 0 rfl) ?_
        refine lv_dup hx hb dX8_under_90 rfl ?_
        refine m_get (v := .int (nI (z.2.2.length))) hx hb htu wu_in hown hK hP 28 (by decide) (htu _ U_46) rfl (m_v hR.1.2.2.2.2.2.2.2) dX8_under_91 ?_
        refine lv_iconst (v := 1) hx hb dX8_under_94 (by decide) ?_
        refine lv_iadd hx hb dX8_under_95 ?_
        refine m_top (y := nI (z.2.2.length + 1)) (nI_add z.2.2.length 1) ?_
        refine m_put (ty := .int) (x := nI (z.2.2.length + 1)) hx hb htu wu_in hown hK hP hDD hS 28 (by decide) (htu _ U_46) rfl rfl (by decide +kernel) rfl rfl (mO_s28 _ _ _) dX8_under_96 (fun H locs hP hS => ?_)
        refine lv_aload_n hx hb dX8_under_99 rfl (lv_at hl 0 rfl) ?_
        refine lv_dup hx hb dX8_under_100 rfl ?_
        refine m_get (v := .int (nI (60 - (fu + 1)))) hx hb htu wu_in hown hK hP 31 (by decide) (htu _ U_47) rfl (m_v hd) dX8_under_101 ?_
        refine lv_iconst (v := 1) hx hb dX8_under_104 (by decide) ?_
        refine lv_iadd hx hb dX8_under_105 ?_
        refine m_top (y := nI (60 - (fu + 1) + 1)) (nI_add (60 - (fu + 1)) 1) ?_
        refine m_put (ty := .int) (x := nI (60 - (fu + 1) + 1)) hx hb htu wu_in hown hK hP hDD hS 31 (by decide) (htu _ U_47) rfl rfl (by decide +kernel) rfl rfl (mO_s31 _ _ _) dX8_under_106 (fun H locs hP hS => ?_)
        refine lv_aload_n hx hb dX8_under_109 rfl (lv_at hl 0 rfl) ?_
        refine lv_iload_n hx hb dX8_under_110 rfl (lv_at hl 1 rfl) ?_
        refine lv_iload_n hx hb dX8_under_111 rfl (lv_at hl 2 rfl) ?_
        refine m_cv (m_runV (As := [.int (nI a), .int (nI b)]) (rest := []) ⟨hx, hb, hml, hown, htu⟩ (hA l G hDD (upd (upd (upd o 26 (nI (stp z + 1))) 28 (nI (z.2.2.length + 1))) 31 (nI (60 - (fu + 1) + 1))) (fput (fput F 29 z.2.2.length (nI a)) 30 z.2.2.length (nI b)) ((asked (w1 z 0 2 (stp z + 1)) a b)) ix lf a b hm (((hR.r_step ns).r_asked (show z.2.2.length < stp z + 1 by omega) ha1 hb1)) hM0 hl0 hh hhm ((fun _ => hh2 h0)) hd2 ((by rw [← un_go h0 ns g2]; exact hb0)) ((show lf + 1 ≤ stp z + 1 by omega)) ((congrArg nI (by omega))) ((by omega)) h0 ha1 hb1 H.size) (cwV 2 htu gU_X8_asks rfl rfl rfl (by decide +kernel) ⟨show (2 * fu + 191) + 1 ≤ 2 * (fu + 1) + 190 by omega, show 8 + (8 + 11) + (60 * fu + 5330) ≤ 60 * (fu + 1) + 5300 by omega⟩) hP hK rfl hl.1 rfl (lv_room (Nat.le_of_ble_eq_true rfl)) dX8_under_112) hS (fun o_11 F_12 H locs hw_13 hP hS => ?_)
        try dsimp only at hw_13
        obtain ⟨hq1, hq2, hq3, hq4, hq5, hq6⟩ := hw_13
        refine lv_aload_n hx hb dX8_under_115 rfl (lv_at hl 0 rfl) ?_
        refine lv_dup hx hb dX8_under_116 rfl ?_
        refine m_get (v := .int (nI (60 - (fu + 1) + 1))) hx hb htu wu_in hown hK hP 31 (by decide) (htu _ U_47) rfl (m_v hq4) dX8_under_117 ?_
        refine lv_iconst (v := 1) hx hb dX8_under_120 (by decide) ?_
        refine lv_isub hx hb dX8_under_121 ?_
        refine m_top (y := nI (60 - (fu + 1))) (nI_pred _) ?_
        refine m_put (ty := .int) (x := nI (60 - (fu + 1))) hx hb htu wu_in hown hK hP hDD hS 31 (by decide) (htu _ U_47) rfl rfl (by decide +kernel) rfl rfl (mO_s31 _ _ _) dX8_under_122 (fun H locs hP hS => ?_)
        exact m_vret hx hb hr hK hP hS (by rw [un_go h0 ns g2]; exact ⟨hq1, fun h => absurd h0 h, HM.next hq3 rfl rfl (Nat.le_refl _) id, hd.symm, hq5, Kq.o (Kq.tr (Kq.o (Kq.F (Kq.F (Kq.o (Kq.o Kq.rf (by decide)) (by decide)) (by decide)) (by decide)) (by decide)) hq6) (by decide)⟩) dX8_under_125 hlocks
    · skip
      have nc_2 : stp z = 1500 := (nI_eq (a := stp z) (b := 1500) (by omega) (by omega)).mp c_2
      refine lv_aload_n hx hb dX8_under_18 rfl (lv_at hl 0 rfl) ?_
      refine lv_bipush (v := (-6)) hx hb dX8_under_19 (by decide) ?_
      refine lv_aload_n hx hb dX8_under_21 rfl (lv_at hl 0 rfl) ?_
      refine m_get (v := .int (nI (askn z))) hx hb htu wu_in hown hK hP 25 (by decide) (htu _ U_61) rfl (m_v hR.1.2.2.2.2.2.2.1) dX8_under_22 ?_
      refine m_cv (m_runV (As := [.int ((-6)), .int (nI (askn z))]) (rest := []) ⟨hx, hb, hml, hown, htu⟩ (m_stops l G hDD o F z ix 1 ((askn z)) hR ((Or.inl rfl)) ((by omega)) H.size) (cwV 2 htu gU_X8_stops rfl rfl rfl (by decide +kernel) ⟨show 0 + 1 ≤ 2 * (fu + 1) + 190 by omega, show 8 + (3 + 11) + 0 ≤ 60 * (fu + 1) + 5300 by omega⟩) hP hK rfl hl.1 rfl (lv_room (Nat.le_of_ble_eq_true rfl)) dX8_under_25) hS (fun o_15 F_16 H locs hw_17 hP hS => ?_)
      try dsimp only at hw_17
      exact m_vret hx hb hr hK hP hS (by rw [un_sp h0 (show stp z = 1500 from nc_2)]; exact ⟨⟨ix, lf, hw_17.1, Px.rf, hM0.to (hw_17.2 36 (by decide)).2, (hw_17.2 35 (by decide)).1.trans hl0, Nat.le_trans hlf (x_stops _ _ _).2.2.2.2.2⟩, fun h => absurd h0 h, HM.own hh (hw_17.2 39 (by decide)).1 (hw_17.2 38 (by decide)).2, (hw_17.2 31 (by decide)).1, (hw_17.2 32 (by decide)).1, hw_17.2.mono (by decide)⟩) dX8_under_28 hlocks
  · skip
    exact m_vret hx hb hr hK hP hS (by rw [un_st (k := fu + 1) (fun h => c_1 (sc_0.mpr h))]; exact ⟨⟨ix, lf, hR, Px.rf, hM0, hl0, hlf⟩, fun _ => rfl, HM.rf hh, rfl, rfl, Kq.rf⟩) dX8_under_7 hlocks

