theorem dX8_fresh_0 : decode cX8_fresh 0 = .ok (.aload_n 0, 1) := by decide +kernel
theorem dX8_fresh_1 : decode cX8_fresh 1 = .ok (.iload_n 1, 1) := by decide +kernel
theorem dX8_fresh_2 : decode cX8_fresh 2 = .ok (.putfield 202, 3) := by decide +kernel
theorem dX8_fresh_5 : decode cX8_fresh 5 = .ok (.aload_n 0, 1) := by decide +kernel
theorem dX8_fresh_6 : decode cX8_fresh 6 = .ok (.getfield 184, 3) := by decide +kernel
theorem dX8_fresh_9 : decode cX8_fresh 9 = .ok (.ifCond .eq 8, 3) := by decide +kernel
theorem dX8_fresh_17 : decode cX8_fresh 17 = .ok (.aload_n 0, 1) := by decide +kernel
theorem dX8_fresh_18 : decode cX8_fresh 18 = .ok (.iload_n 2, 1) := by decide +kernel
theorem dX8_fresh_19 : decode cX8_fresh 19 = .ok (.invokevirtual 248, 3) := by decide +kernel
theorem dX8_fresh_22 : decode cX8_fresh 22 = .ok (.ireturn, 1) := by decide +kernel
theorem dX8_fresh_12 : decode cX8_fresh 12 = .ok (.bipush (-9), 2) := by decide +kernel
theorem dX8_fresh_14 : decode cX8_fresh 14 = .ok (.goto 8, 3) := by decide +kernel
theorem dX8_puts_0 : decode cX8_puts 0 = .ok (.aload_n 0, 1) := by decide +kernel
theorem dX8_puts_1 : decode cX8_puts 1 = .ok (.iload_n 1, 1) := by decide +kernel
theorem dX8_puts_2 : decode cX8_puts 2 = .ok (.putfield 202, 3) := by decide +kernel
theorem dX8_puts_5 : decode cX8_puts 5 = .ok (.aload_n 0, 1) := by decide +kernel
theorem dX8_puts_6 : decode cX8_puts 6 = .ok (.getfield 184, 3) := by decide +kernel
theorem dX8_puts_9 : decode cX8_puts 9 = .ok (.ifCond .ne 9, 3) := by decide +kernel
theorem dX8_puts_18 : decode cX8_puts 18 = .ok (.return_, 1) := by decide +kernel
theorem dX8_puts_12 : decode cX8_puts 12 = .ok (.aload_n 0, 1) := by decide +kernel
theorem dX8_puts_13 : decode cX8_puts 13 = .ok (.iload_n 2, 1) := by decide +kernel
theorem dX8_puts_14 : decode cX8_puts 14 = .ok (.iload_n 3, 1) := by decide +kernel
theorem dX8_puts_15 : decode cX8_puts 15 = .ok (.invokevirtual 218, 3) := by decide +kernel
theorem dX8_typeOfName_0 : decode cX8_typeOfName 0 = .ok (.aload_n 0, 1) := by decide +kernel
theorem dX8_typeOfName_1 : decode cX8_typeOfName 1 = .ok (.iload_n 1, 1) := by decide +kernel
theorem dX8_typeOfName_2 : decode cX8_typeOfName 2 = .ok (.aload_n 0, 1) := by decide +kernel
theorem dX8_typeOfName_3 : decode cX8_typeOfName 3 = .ok (.getfield 13, 3) := by decide +kernel
theorem dX8_typeOfName_6 : decode cX8_typeOfName 6 = .ok (.iload_n 1, 1) := by decide +kernel
theorem dX8_typeOfName_7 : decode cX8_typeOfName 7 = .ok (.iaload, 1) := by decide +kernel
theorem dX8_typeOfName_8 : decode cX8_typeOfName 8 = .ok (.invokevirtual 289, 3) := by decide +kernel
theorem dX8_typeOfName_11 : decode cX8_typeOfName 11 = .ok (.istore_n 3, 1) := by decide +kernel
theorem dX8_typeOfName_12 : decode cX8_typeOfName 12 = .ok (.aload_n 0, 1) := by decide +kernel
theorem dX8_typeOfName_13 : decode cX8_typeOfName 13 = .ok (.iload_n 1, 1) := by decide +kernel
theorem dX8_typeOfName_14 : decode cX8_typeOfName 14 = .ok (.putfield 202, 3) := by decide +kernel
theorem dX8_typeOfName_17 : decode cX8_typeOfName 17 = .ok (.iload_n 3, 1) := by decide +kernel
theorem dX8_typeOfName_18 : decode cX8_typeOfName 18 = .ok (.bipush (-9), 2) := by decide +kernel
theorem dX8_typeOfName_20 : decode cX8_typeOfName 20 = .ok (.if_icmp .ne 13, 3) := by decide +kernel
theorem dX8_typeOfName_23 : decode cX8_typeOfName 23 = .ok (.aload_n 0, 1) := by decide +kernel
theorem dX8_typeOfName_24 : decode cX8_typeOfName 24 = .ok (.bipush (-7), 2) := by decide +kernel
theorem dX8_typeOfName_26 : decode cX8_typeOfName 26 = .ok (.iload_n 1, 1) := by decide +kernel
theorem dX8_typeOfName_27 : decode cX8_typeOfName 27 = .ok (.invokevirtual 205, 3) := by decide +kernel
theorem dX8_typeOfName_30 : decode cX8_typeOfName 30 = .ok (.bipush (-9), 2) := by decide +kernel
theorem dX8_typeOfName_32 : decode cX8_typeOfName 32 = .ok (.ireturn, 1) := by decide +kernel
theorem dX8_typeOfName_33 : decode cX8_typeOfName 33 = .ok (.aload_n 0, 1) := by decide +kernel
theorem dX8_typeOfName_34 : decode cX8_typeOfName 34 = .ok (.getfield 89, 3) := by decide +kernel
theorem dX8_typeOfName_37 : decode cX8_typeOfName 37 = .ok (.iload_n 3, 1) := by decide +kernel
theorem dX8_typeOfName_38 : decode cX8_typeOfName 38 = .ok (.iaload, 1) := by decide +kernel
theorem dX8_typeOfName_39 : decode cX8_typeOfName 39 = .ok (.bipush (-9), 2) := by decide +kernel
theorem dX8_typeOfName_41 : decode cX8_typeOfName 41 = .ok (.if_icmp .ne 12, 3) := by decide +kernel
theorem dX8_typeOfName_44 : decode cX8_typeOfName 44 = .ok (.aload_n 0, 1) := by decide +kernel
theorem dX8_typeOfName_45 : decode cX8_typeOfName 45 = .ok (.getfield 86, 3) := by decide +kernel
theorem dX8_typeOfName_48 : decode cX8_typeOfName 48 = .ok (.iload_n 3, 1) := by decide +kernel
theorem dX8_typeOfName_49 : decode cX8_typeOfName 49 = .ok (.iaload, 1) := by decide +kernel
theorem dX8_typeOfName_50 : decode cX8_typeOfName 50 = .ok (.goto 20, 3) := by decide +kernel
theorem dX8_typeOfName_70 : decode cX8_typeOfName 70 = .ok (.ireturn, 1) := by decide +kernel
theorem dX8_typeOfName_53 : decode cX8_typeOfName 53 = .ok (.aload_n 0, 1) := by decide +kernel
theorem dX8_typeOfName_54 : decode cX8_typeOfName 54 = .ok (.aload_n 0, 1) := by decide +kernel
theorem dX8_typeOfName_55 : decode cX8_typeOfName 55 = .ok (.getfield 86, 3) := by decide +kernel
theorem dX8_typeOfName_58 : decode cX8_typeOfName 58 = .ok (.iload_n 3, 1) := by decide +kernel
theorem dX8_typeOfName_59 : decode cX8_typeOfName 59 = .ok (.iaload, 1) := by decide +kernel
theorem dX8_typeOfName_60 : decode cX8_typeOfName 60 = .ok (.aload_n 0, 1) := by decide +kernel
theorem dX8_typeOfName_61 : decode cX8_typeOfName 61 = .ok (.getfield 89, 3) := by decide +kernel
theorem dX8_typeOfName_64 : decode cX8_typeOfName 64 = .ok (.iload_n 3, 1) := by decide +kernel
theorem dX8_typeOfName_65 : decode cX8_typeOfName 65 = .ok (.iaload, 1) := by decide +kernel
theorem dX8_typeOfName_66 : decode cX8_typeOfName 66 = .ok (.iload_n 2, 1) := by decide +kernel
theorem dX8_typeOfName_67 : decode cX8_typeOfName 67 = .ok (.invokevirtual 292, 3) := by decide +kernel
set_option maxHeartbeats 4000000 in
set_option maxRecDepth 100000 in
/-- fresh -/
theorem m_fresh (l : Launch) (G : mG) (hDD : mDD G) (o : Nat → Int32) (F : Nat → Nat → Int32) (tr : aM) (N : Nat) (top : Nat) (gs : Nat → Prop) (z : aS) (ix : Nat → Nat → Nat) (lf : Nat) (an : Nat) (kk : Nat) (n : Nat) (lv : Nat) (hTS : TS tr N top gs z ix lf an o F) (hn : n < 120) (hlv : lv ≤ 100) (sz : Nat) : Met l yX8_fresh (wU yX8_fresh cX8_fresh 3 (some .int)) { frames := 3, cells := 0, slots := 0, locals := 67 } (mPc G o F sz [.ref (mh G), .int (nI n), .int (nI lv)]) (mQi G sz (fun r u => TW tr N top gs z ix an gs (fresh z n lv).1 ix lf an 0 kk o F u ∧ (sto (fresh z n lv).1 = 0 → r = nI (fresh z n lv).2 ∧ (fresh z n lv).2 < nT (fresh z n lv).1))) 0 0 (mA G sz) := by
  refine Met.ofW (cc := cX8_fresh) (maxL := 3) (ret := (some .int)) (by decide) rfl ?_
  intro p e s m args below meth c s₁ B hml hv
  obtain ⟨rfl, hsz, hP, hK⟩ := hv
  have hx := B.exec
  have hb := B.bytes
  have hr := B.returns
  have htu : ∀ w ∈ WU, w.before _ s = true := fun w h => atoms_spec (ws := (wU yX8_fresh cX8_fresh 3 (some .int))) B.pre w (List.mem_cons_of_mem _ h)
  have hown : s.vm.findClass RX8 = some m.cls := findClass_of_methodNamed B.named
  have hlocks := B.notSynchronized
  subst hsz
  have hS : va_S (mA G s.heap.size) s.heap s.heap [] := va_S.rf
  have hl := lv_entry ([.ref (mh G), .int (nI n), .int (nI lv)]) (n := 3) (Nat.le_of_ble_eq_true rfl)
  rw [lg_entry_eq]
  generalize (lg_sl ([.ref (mh G), .int (nI n), .int (nI lv)]) ++ List.replicate (3 - (lg_sl ([.ref (mh G), .int (nI n), .int (nI lv)])).length) Slot.unset).toArray = ls at hl ⊢
  have hl : lv_has ls 3 [(0, .ref (mh G)), (1, .int (nI n)), (2, .int (nI lv))] := hl
  obtain ⟨H, hHe⟩ : ∃ H : Heap, H = s.heap := ⟨_, rfl⟩
  rw [← hHe] at hP
  have hS : va_S (mA G s.heap.size) s.heap H [] := by rw [hHe]; exact va_S.rf
  refine W.heq hHe ?_
  have hTS2 := hTS
  obtain ⟨hR, hT, hG, ⟨hM0, hl0, hlf⟩, ⟨hN0, hn0⟩, hu0, hd0, ha0, htop⟩ := hTS2
  obtain ⟨b1, b2, b3, b4, b5, b6, b7, b8⟩ := hR.2.1
  refine lv_aload_n hx hb dX8_fresh_0 rfl (lv_at hl 0 rfl) ?_
  refine lv_iload_n hx hb dX8_fresh_1 rfl (lv_at hl 1 rfl) ?_
  refine m_put (ty := .int) (x := nI n) hx hb htu wu_in hown hK hP hDD hS 25 (by decide) (htu _ U_61) rfl rfl (by decide +kernel) rfl rfl (mO_s25 _ _ _) dX8_fresh_2 (fun H locs hP hS => ?_)
  refine lv_aload_n hx hb dX8_fresh_5 rfl (lv_at hl 0 rfl) ?_
  refine m_get (v := .int (sc (sto z))) hx hb htu wu_in hown hK hP 27 (by decide) (htu _ U_45) rfl (m_v hR.1.2.2.2.2.1) dX8_fresh_6 ?_
  refine lv_if_eq (tgt := 17) hx hb dX8_fresh_9 (by decide) (fun c_1 => ?_) (fun c_1 => ?_)
  · skip
    refine lv_aload_n hx hb dX8_fresh_17 rfl (lv_at hl 0 rfl) ?_
    refine lv_iload_n hx hb dX8_fresh_18 rfl (lv_at hl 2 rfl) ?_
    refine m_ci (m_runV (As := [.int (nI lv)]) (rest := []) ⟨hx, hb, hml, hown, htu⟩ (m_newVariable l G hDD (upd o 25 (nI n)) F ((w1 z 0 5 n)) ix lv ((hR.r_askn hn)) hlv H.size) (cwV 1 htu gU_X8_newVariable rfl rfl rfl (by decide +kernel) ⟨Nat.le_of_ble_eq_true rfl, Nat.le_of_ble_eq_true rfl⟩) hP hK rfl hl.1 rfl (lv_room (Nat.le_of_ble_eq_true rfl)) dX8_fresh_19) hS (fun r_2 o_3 F_4 H locs hw_5 hP hS => ?_)
    try dsimp only at hw_5
    exact m_iret (v := r_2) hx hb hr hK hP hS (by rw [show (fresh z n lv) = mkV (w1 z 0 5 n) lv from if_neg (not_not_intro (sc_0.mp c_1))]; exact ⟨((TW.ask hTS hn).tr (TW.leaf (TW.ask (k := kk) hTS hn).1 hw_5.2.1 Px.rf hw_5.2.2 (by decide) (x_mkV _ _) (k_mkV _ _) (mkV_sto (sc_0.mp c_1))) hR).wk (Nat.le_refl _) (Nat.le_refl _), fun hz => hw_5.1.elim (fun g => absurd hz g.2) (fun g => ⟨by rw [g.2]; exact g.1, by rw [g.2]; exact Nat.lt_succ_self _⟩)⟩) dX8_fresh_22 hlocks
  · skip
    refine lv_bipush (v := (-9)) hx hb dX8_fresh_12 (by decide) ?_
    refine lv_goto (tgt := 22) hx hb dX8_fresh_14 (by decide) ?_
    exact m_iret (v := (-9)) hx hb hr hK hP hS (by rw [show (fresh z n lv) = (w1 z 0 5 n, 0) from if_pos (fun h => c_1 (sc_0.mpr h))]; exact ⟨TW.ask hTS hn, fun h => absurd h (fun h => c_1 (sc_0.mpr h))⟩) dX8_fresh_22 hlocks

set_option maxHeartbeats 4000000 in
set_option maxRecDepth 100000 in
/-- puts -/
theorem m_puts (l : Launch) (G : mG) (hDD : mDD G) (o : Nat → Int32) (F : Nat → Nat → Int32) (tr : aM) (N : Nat) (top : Nat) (gs : Nat → Prop) (z : aS) (ix : Nat → Nat → Nat) (lf : Nat) (an : Nat) (kk : Nat) (n : Nat) (a : Nat) (b : Nat) (hm : Nat) (av : Int32) (bv : Int32) (hTS : TS tr N top gs z ix lf an o F) (hn : n < 120) (hh : o 39 = nI hm) (hhm : hm ≤ 100000) (hh2 : sto z = 0 → hm + 360 ≤ 8000) (hkk : 60 ≤ kk) (hb0 : bnd (puts z n a b) ≤ 200000) (hab : sto z = 0 → av = nI a ∧ bv = nI b ∧ a < nT z ∧ b < nT z) (sz : Nat) : Met l yX8_puts (wU yX8_puts cX8_puts 4 none) { frames := 311, cells := 0, slots := 0, locals := 8922 } (mPc G o F sz [.ref (mh G), .int (nI n), .int av, .int bv]) (mQv G sz (fun u => ∃ ix' lf', TW tr N top gs z ix an gs (puts z n a b) ix' lf' an 0 kk o F u)) 0 0 (mA G sz) := by
  refine Met.ofW (cc := cX8_puts) (maxL := 4) (ret := none) (by decide) rfl ?_
  intro p e s m args below meth c s₁ B hml hv
  obtain ⟨rfl, hsz, hP, hK⟩ := hv
  have hx := B.exec
  have hb := B.bytes
  have hr := B.returns
  have htu : ∀ w ∈ WU, w.before _ s = true := fun w h => atoms_spec (ws := (wU yX8_puts cX8_puts 4 none)) B.pre w (List.mem_cons_of_mem _ h)
  have hown : s.vm.findClass RX8 = some m.cls := findClass_of_methodNamed B.named
  have hlocks := B.notSynchronized
  subst hsz
  have hS : va_S (mA G s.heap.size) s.heap s.heap [] := va_S.rf
  have hl := lv_entry ([.ref (mh G), .int (nI n), .int av, .int bv]) (n := 4) (Nat.le_of_ble_eq_true rfl)
  rw [lg_entry_eq]
  generalize (lg_sl ([.ref (mh G), .int (nI n), .int av, .int bv]) ++ List.replicate (4 - (lg_sl ([.ref (mh G), .int (nI n), .int av, .int bv])).length) Slot.unset).toArray = ls at hl ⊢
  have hl : lv_has ls 4 [(0, .ref (mh G)), (1, .int (nI n)), (2, .int av), (3, .int bv)] := hl
  obtain ⟨H, hHe⟩ : ∃ H : Heap, H = s.heap := ⟨_, rfl⟩
  rw [← hHe] at hP
  have hS : va_S (mA G s.heap.size) s.heap H [] := by rw [hHe]; exact va_S.rf
  refine W.heq hHe ?_
  have hTS2 := hTS
  obtain ⟨hR, hT, hG, ⟨hM0, hl0, hlf⟩, ⟨hN0, hn0⟩, hu0, hd0, ha0, htop⟩ := hTS2
  obtain ⟨b1, b2, b3, b4, b5, b6, b7, b8⟩ := hR.2.1
  refine lv_aload_n hx hb dX8_puts_0 rfl (lv_at hl 0 rfl) ?_
  refine lv_iload_n hx hb dX8_puts_1 rfl (lv_at hl 1 rfl) ?_
  refine m_put (ty := .int) (x := nI n) hx hb htu wu_in hown hK hP hDD hS 25 (by decide) (htu _ U_61) rfl rfl (by decide +kernel) rfl rfl (mO_s25 _ _ _) dX8_puts_2 (fun H locs hP hS => ?_)
  refine lv_aload_n hx hb dX8_puts_5 rfl (lv_at hl 0 rfl) ?_
  refine m_get (v := .int (sc (sto z))) hx hb htu wu_in hown hK hP 27 (by decide) (htu _ U_45) rfl (m_v hR.1.2.2.2.2.1) dX8_puts_6 ?_
  refine lv_if_ne (tgt := 18) hx hb dX8_puts_9 (by decide) (fun c_1 => ?_) (fun c_1 => ?_)
  · skip
    exact m_vret hx hb hr hK hP hS (by rw [show (puts z n a b) = w1 z 0 5 n from if_pos (fun h => c_1 (sc_0.mpr h))]; exact ⟨ix, lf, TW.ask hTS hn⟩) dX8_puts_18 hlocks
  · skip
    have h0 : sto z = 0 := sc_0.mp c_1
    have hA := TW.ask (k := kk) hTS hn
    have ep : (puts z n a b) = un 60 (w1 z 0 5 n) a b := if_neg (not_not_intro h0)
    refine lv_aload_n hx hb dX8_puts_12 rfl (lv_at hl 0 rfl) ?_
    refine lv_iload_n hx hb dX8_puts_13 rfl (lv_at hl 2 rfl) ?_
    refine lv_iload_n hx hb dX8_puts_14 rfl (lv_at hl 3 rfl) ?_
    refine m_cv (m_runV (As := [.int av, .int bv]) (rest := []) ⟨hx, hb, hml, hown, htu⟩ (m_under_all 60 l G hDD (upd o 25 (nI n)) F ((w1 z 0 5 n)) ix lf a b hm av bv hA.1.1 hM0 hl0 hh hhm hh2 hd0 ((by rw [← ep]; exact hb0)) hlf hu0 ((Nat.le_refl 60)) hab H.size) (cwV 2 htu gU_X8_under rfl rfl rfl (by decide +kernel) ⟨Nat.le_of_ble_eq_true rfl, Nat.le_of_ble_eq_true rfl⟩) hP hK rfl hl.1 rfl (lv_room (Nat.le_of_ble_eq_true rfl)) dX8_puts_15) hS (fun o_3 F_4 H locs hw_5 hP hS => ?_)
    try dsimp only at hw_5
    exact m_vret hx hb hr hK hP hS (by rw [ep]; obtain ⟨ix2, lf2, h2⟩ := TW.under (k := kk) hA.1 hw_5 (by decide) hh (by omega) (x_un _ _ _ _) (k_un _ _ _ _) un_sto hkk; exact ⟨ix2, lf2, (hA.tr h2 hR).wk (Nat.le_refl _) (Nat.le_refl _)⟩) dX8_puts_18 hlocks

set_option maxHeartbeats 4000000 in
set_option maxRecDepth 100000 in
/-- typeOfName -/
theorem m_typeOfName (l : Launch) (G : mG) (hDD : mDD G) (o : Nat → Int32) (F : Nat → Nat → Int32) (tr : aM) (N : Nat) (top : Nat) (gs : Nat → Prop) (z : aS) (ix : Nat → Nat → Nat) (lf : Nat) (an : Nat) (kk : Nat) (n : Nat) (lv : Nat) (hm : Nat) (d : Nat) (hTS : TS tr N top gs z ix lf an o F) (hn : n < N) (htp : top < N) (hup : UpT tr top d n) (hd : d < 120) (hk2 : tr 0 n = 2) (hC : ∀ j, Cv gs tr top j n) (hlv : lv ≤ 100) (hh : o 39 = nI hm) (hhm : hm ≤ 100000) (hh2 : hm + 360 ≤ 8000) (hkk : 60 ≤ kk) (hb0 : bnd (tyName tr top z n lv).1 ≤ 200000) (h0 : sto z = 0) (han : an + 1 < 2 ^ 31) (sz : Nat) : Met l yX8_typeOfName (wU yX8_typeOfName cX8_typeOfName 4 (some .int)) { frames := 188, cells := 0, slots := 0, locals := 5168 } (mPc G o F sz [.ref (mh G), .int (nI n), .int (nI lv)]) (mQi G sz (fun r u => (∃ ix' an', TW tr N top gs z ix an gs (tyName tr top z n lv).1 ix' lf an' 1 kk o F u) ∧ (sto (tyName tr top z n lv).1 = 0 → r = nI (tyName tr top z n lv).2 ∧ (tyName tr top z n lv).2 < nT (tyName tr top z n lv).1))) 0 0 (mA G sz) := by
  refine Met.ofW (cc := cX8_typeOfName) (maxL := 4) (ret := (some .int)) (by decide) rfl ?_
  intro p e s m args below meth c s₁ B hml hv
  obtain ⟨rfl, hsz, hP, hK⟩ := hv
  have hx := B.exec
  have hb := B.bytes
  have hr := B.returns
  have htu : ∀ w ∈ WU, w.before _ s = true := fun w h => atoms_spec (ws := (wU yX8_typeOfName cX8_typeOfName 4 (some .int))) B.pre w (List.mem_cons_of_mem _ h)
  have hown : s.vm.findClass RX8 = some m.cls := findClass_of_methodNamed B.named
  have hlocks := B.notSynchronized
  subst hsz
  have hS : va_S (mA G s.heap.size) s.heap s.heap [] := va_S.rf
  have hl := lv_entry ([.ref (mh G), .int (nI n), .int (nI lv)]) (n := 4) (Nat.le_of_ble_eq_true rfl)
  rw [lg_entry_eq]
  generalize (lg_sl ([.ref (mh G), .int (nI n), .int (nI lv)]) ++ List.replicate (4 - (lg_sl ([.ref (mh G), .int (nI n), .int (nI lv)])).length) Slot.unset).toArray = ls at hl ⊢
  have hl : lv_has ls 4 [(0, .ref (mh G)), (1, .int (nI n)), (2, .int (nI lv))] := hl
  obtain ⟨H, hHe⟩ : ∃ H : Heap, H = s.heap := ⟨_, rfl⟩
  rw [← hHe] at hP
  have hS : va_S (mA G s.heap.size) s.heap H [] := by rw [hHe]; exact va_S.rf
  refine W.heq hHe ?_
  have hTS2 := hTS
  obtain ⟨hR, hT, hG, ⟨hM0, hl0, hlf⟩, ⟨hN0, hn0⟩, hu0, hd0, ha0, htop⟩ := hTS2
  obtain ⟨b1, b2, b3, b4, b5, b6, b7, b8⟩ := hR.2.1
  have hN := hT.2.1
  have t0 := hT.2.2 n hn
  obtain ⟨t2, t2b⟩ := t0.2.2.1 (Or.inl hk2)
  have hA := TW.ask (k := kk) (n := n) hTS (by omega)
  refine lv_aload_n hx hb dX8_typeOfName_0 rfl (lv_at hl 0 rfl) ?_
  refine lv_iload_n hx hb dX8_typeOfName_1 rfl (lv_at hl 1 rfl) ?_
  refine lv_aload_n hx hb dX8_typeOfName_2 rfl (lv_at hl 0 rfl) ?_
  refine m_get (v := .ref (md G 2)) hx hb htu wu_in hown hK hP 2 (by decide) (htu _ U_3) rfl rfl dX8_typeOfName_3 ?_
  refine lv_iload_n hx hb dX8_typeOfName_6 rfl (lv_at hl 1 rfl) ?_
  refine m_ald (j := n) (v := nI (tr 1 n)) hx hb hK hP 2 2 rfl (by omega) (by decide) t2 dX8_typeOfName_7 ?_
  refine m_ci (m_runV (As := [.int (nI n), .int (nI (tr 1 n))]) (rest := []) ⟨hx, hb, hml, hown, htu⟩ (m_binderOf l G hDD o F tr N top n (tr 1 n) d hT hn htp t2b hup hd htop H.size) (cwV 2 htu gU_X8_binderOf rfl rfl rfl (by decide +kernel) ⟨Nat.le_of_ble_eq_true rfl, Nat.le_of_ble_eq_true rfl⟩) hP hK rfl hl.1 rfl (lv_room (Nat.le_of_ble_eq_true rfl)) dX8_typeOfName_8) hS (fun r_1 o_2 F_3 H locs hw_4 hP hS => ?_)
  try dsimp only at hw_4
  obtain ⟨hu, hc⟩ := hw_4
  rcases hc with ⟨g2, g1⟩ | ⟨q, g2, g1, g3⟩
  · skip
    subst g1
    obtain ⟨h91, h92⟩ := Prod.mk.inj hu
    have h91 := h91.symm
    subst h91
    have h92 := h92.symm
    subst h92
    refine lv_istore_n (lv' := [(3, .int ((-9))), (0, .ref (mh G)), (1, .int (nI n)), (2, .int (nI lv))]) hx hb dX8_typeOfName_11 rfl hl (by decide) rfl (fun ls hl => ?_)
    refine lv_aload_n hx hb dX8_typeOfName_12 rfl (lv_at hl 1 rfl) ?_
    refine lv_iload_n hx hb dX8_typeOfName_13 rfl (lv_at hl 2 rfl) ?_
    refine m_put (ty := .int) (x := nI n) hx hb htu wu_in hown hK hP hDD hS 25 (by decide) (htu _ U_61) rfl rfl (by decide +kernel) rfl rfl (mO_s25 _ _ _) dX8_typeOfName_14 (fun H locs hP hS => ?_)
    refine lv_iload_n hx hb dX8_typeOfName_17 rfl (lv_at hl 0 rfl) ?_
    refine lv_bipush (v := (-9)) hx hb dX8_typeOfName_18 (by decide) ?_
    refine lv_icmp_ne (tgt := 33) hx hb dX8_typeOfName_20 (by decide) (fun c_5 => absurd (by decide) c_5) (fun c_5 => ?_)
    refine lv_aload_n hx hb dX8_typeOfName_23 rfl (lv_at hl 1 rfl) ?_
    refine lv_bipush (v := (-7)) hx hb dX8_typeOfName_24 (by decide) ?_
    refine lv_iload_n hx hb dX8_typeOfName_26 rfl (lv_at hl 2 rfl) ?_
    refine m_cv (m_runV (As := [.int ((-7)), .int (nI n)]) (rest := []) ⟨hx, hb, hml, hown, htu⟩ (m_stops l G hDD (upd o 25 (nI n)) F ((w1 z 0 5 n)) ix 2 n hA.1.1 ((Or.inr rfl)) ((by omega)) H.size) (cwV 2 htu gU_X8_stops rfl rfl rfl (by decide +kernel) ⟨Nat.le_of_ble_eq_true rfl, Nat.le_of_ble_eq_true rfl⟩) hP hK rfl hl.1 rfl (lv_room (Nat.le_of_ble_eq_true rfl)) dX8_typeOfName_27) hS (fun o_7 F_8 H locs hw_9 hP hS => ?_)
    try dsimp only at hw_9
    refine lv_bipush (v := (-9)) hx hb dX8_typeOfName_30 (by decide) ?_
    exact m_iret (v := (-9)) hx hb hr hK hP hS (by rw [show (tyName tr top z n lv) = (stops (w1 z 0 5 n) 2 n, 0) by unfold tyName; rw [g2]]; exact ⟨⟨ix, an, ((hA.tr (TW.leaf hA.1 hw_9.1 Px.rf hw_9.2 (by decide) (x_stops _ _ _) (k_stops _ _ _) stops_sto0) hR).wk (by omega) (Nat.le_refl _))⟩, fun hz => absurd hz (stops_sto2 h0)⟩) dX8_typeOfName_32 hlocks
  · skip
    subst g1
    obtain ⟨h91, h92⟩ := Prod.mk.inj hu
    have h91 := h91.symm
    subst h91
    have h92 := h92.symm
    subst h92
    have hq9 := Cv.bind 120 n (hC 120) g2
    obtain ⟨e43, e8, e9, e44⟩ := hG h0 q hq9
    rcases Decidable.em (z.1 9 q = 0) with hz9 | hz9
    · skip
      rw [if_pos hz9] at e44
      refine lv_istore_n (lv' := [(3, .int (nI q)), (0, .ref (mh G)), (1, .int (nI n)), (2, .int (nI lv))]) hx hb dX8_typeOfName_11 rfl hl (by decide) rfl (fun ls hl => ?_)
      refine lv_aload_n hx hb dX8_typeOfName_12 rfl (lv_at hl 1 rfl) ?_
      refine lv_iload_n hx hb dX8_typeOfName_13 rfl (lv_at hl 2 rfl) ?_
      refine m_put (ty := .int) (x := nI n) hx hb htu wu_in hown hK hP hDD hS 25 (by decide) (htu _ U_61) rfl rfl (by decide +kernel) rfl rfl (mO_s25 _ _ _) dX8_typeOfName_14 (fun H locs hP hS => ?_)
      refine lv_iload_n hx hb dX8_typeOfName_17 rfl (lv_at hl 0 rfl) ?_
      refine lv_bipush (v := (-9)) hx hb dX8_typeOfName_18 (by decide) ?_
      refine lv_icmp_ne (tgt := 33) hx hb dX8_typeOfName_20 (by decide) (fun c_10 => ?_) (fun c_10 => absurd c_10 (nI_neg (by decide) (by omega)))
      refine lv_aload_n hx hb dX8_typeOfName_33 rfl (lv_at hl 1 rfl) ?_
      refine m_get (v := .ref (md G 44)) hx hb htu wu_in hown hK hP 44 (by decide) (htu _ U_93) rfl rfl dX8_typeOfName_34 ?_
      refine lv_iload_n hx hb dX8_typeOfName_37 rfl (lv_at hl 0 rfl) ?_
      refine m_ald (j := q) (v := (-9)) hx hb hK hP 27 44 rfl (by omega) (by decide) e44 dX8_typeOfName_38 ?_
      refine lv_bipush (v := (-9)) hx hb dX8_typeOfName_39 (by decide) ?_
      refine lv_icmp_ne (tgt := 53) hx hb dX8_typeOfName_41 (by decide) (fun c_11 => absurd (by decide) c_11) (fun c_11 => ?_)
      refine lv_aload_n hx hb dX8_typeOfName_44 rfl (lv_at hl 1 rfl) ?_
      refine m_get (v := .ref (md G 43)) hx hb htu wu_in hown hK hP 43 (by decide) (htu _ U_92) rfl rfl dX8_typeOfName_45 ?_
      refine lv_iload_n hx hb dX8_typeOfName_48 rfl (lv_at hl 0 rfl) ?_
      refine m_ald (j := q) (v := nI (z.1 8 q)) hx hb hK hP 26 43 rfl (by omega) (by decide) e43 dX8_typeOfName_49 ?_
      refine lv_goto (tgt := 70) hx hb dX8_typeOfName_50 (by decide) ?_
      exact m_iret (v := nI (z.1 8 q)) hx hb hr hK hP hS (by rw [show (tyName tr top z n lv) = (w1 z 0 5 n, z.1 8 q) by unfold tyName; rw [g2]; exact if_pos hz9]; exact ⟨⟨ix, an, hA.wk (by omega) (Nat.le_refl _)⟩, fun _ => ⟨rfl, e8⟩⟩) dX8_typeOfName_70 hlocks
    · skip
      rw [if_neg hz9] at e44
      have et : (tyName tr top z n lv) = startCp (w1 z 0 5 n) (z.1 8 q) 2 (z.1 9 q - 1) lv := by unfold tyName; rw [g2]; exact if_neg hz9
      refine lv_istore_n (lv' := [(3, .int (nI q)), (0, .ref (mh G)), (1, .int (nI n)), (2, .int (nI lv))]) hx hb dX8_typeOfName_11 rfl hl (by decide) rfl (fun ls hl => ?_)
      refine lv_aload_n hx hb dX8_typeOfName_12 rfl (lv_at hl 1 rfl) ?_
      refine lv_iload_n hx hb dX8_typeOfName_13 rfl (lv_at hl 2 rfl) ?_
      refine m_put (ty := .int) (x := nI n) hx hb htu wu_in hown hK hP hDD hS 25 (by decide) (htu _ U_61) rfl rfl (by decide +kernel) rfl rfl (mO_s25 _ _ _) dX8_typeOfName_14 (fun H locs hP hS => ?_)
      refine lv_iload_n hx hb dX8_typeOfName_17 rfl (lv_at hl 0 rfl) ?_
      refine lv_bipush (v := (-9)) hx hb dX8_typeOfName_18 (by decide) ?_
      refine lv_icmp_ne (tgt := 33) hx hb dX8_typeOfName_20 (by decide) (fun c_12 => ?_) (fun c_12 => absurd c_12 (nI_neg (by decide) (by omega)))
      refine lv_aload_n hx hb dX8_typeOfName_33 rfl (lv_at hl 1 rfl) ?_
      refine m_get (v := .ref (md G 44)) hx hb htu wu_in hown hK hP 44 (by decide) (htu _ U_93) rfl rfl dX8_typeOfName_34 ?_
      refine lv_iload_n hx hb dX8_typeOfName_37 rfl (lv_at hl 0 rfl) ?_
      refine m_ald (j := q) (v := nI (z.1 9 q - 1)) hx hb hK hP 27 44 rfl (by omega) (by decide) e44 dX8_typeOfName_38 ?_
      refine lv_bipush (v := (-9)) hx hb dX8_typeOfName_39 (by decide) ?_
      refine lv_icmp_ne (tgt := 53) hx hb dX8_typeOfName_41 (by decide) (fun c_13 => ?_) (fun c_13 => absurd c_13 (nI_neg (by decide) (by omega)))
      refine lv_aload_n hx hb dX8_typeOfName_53 rfl (lv_at hl 1 rfl) ?_
      refine lv_aload_n hx hb dX8_typeOfName_54 rfl (lv_at hl 1 rfl) ?_
      refine m_get (v := .ref (md G 43)) hx hb htu wu_in hown hK hP 43 (by decide) (htu _ U_92) rfl rfl dX8_typeOfName_55 ?_
      refine lv_iload_n hx hb dX8_typeOfName_58 rfl (lv_at hl 0 rfl) ?_
      refine m_ald (j := q) (v := nI (z.1 8 q)) hx hb hK hP 26 43 rfl (by omega) (by decide) e43 dX8_typeOfName_59 ?_
      refine lv_aload_n hx hb dX8_typeOfName_60 rfl (lv_at hl 1 rfl) ?_
      refine m_get (v := .ref (md G 44)) hx hb htu wu_in hown hK hP 44 (by decide) (htu _ U_93) rfl rfl dX8_typeOfName_61 ?_
      refine lv_iload_n hx hb dX8_typeOfName_64 rfl (lv_at hl 0 rfl) ?_
      refine m_ald (j := q) (v := nI (z.1 9 q - 1)) hx hb hK hP 27 44 rfl (by omega) (by decide) e44 dX8_typeOfName_65 ?_
      refine lv_iload_n hx hb dX8_typeOfName_66 rfl (lv_at hl 3 rfl) ?_
      refine m_ci (m_runV (As := [.int (nI (z.1 8 q)), .int (nI (z.1 9 q - 1)), .int (nI lv)]) (rest := []) ⟨hx, hb, hml, hown, htu⟩ (m_beginAnew l G hDD (upd o 25 (nI n)) F ((w1 z 0 5 n)) ix an (z.1 8 q) lv (z.1 9 q - 1) hm hA.1.1 hN0 han hlv ((by omega)) hh ((by rw [← et]; exact hb0)) ha0 hn0 hh2 h0 e8 H.size) (cwV 3 htu gU_X8_beginAnew rfl rfl rfl (by decide +kernel) ⟨Nat.le_of_ble_eq_true rfl, Nat.le_of_ble_eq_true rfl⟩) hP hK rfl hl.1 rfl (lv_room (Nat.le_of_ble_eq_true rfl)) dX8_typeOfName_67) hS (fun r_14 o_15 F_16 H locs hw_17 hP hS => ?_)
      try dsimp only at hw_17
      exact m_iret (v := r_14) hx hb hr hK hP hS (by rw [et]; obtain ⟨ix2, h2⟩ := TW.anew (k := kk) hA.1 hw_17 (by decide) hh (by omega) (x_start _ _ _ _ _) (k_start _ _ _ _ _) start_sto hkk; exact ⟨⟨ix2, an + 1, (hA.tr h2 hR).wk (by omega) (Nat.le_refl _)⟩, hw_17.1.2.2.1⟩) dX8_typeOfName_70 hlocks

