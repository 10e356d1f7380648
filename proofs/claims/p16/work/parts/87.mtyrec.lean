theorem dX8_typeOfRecord_0 : decode cX8_typeOfRecord 0 = .ok (.iconst 0, 1) := by decide +kernel
theorem dX8_typeOfRecord_1 : decode cX8_typeOfRecord 1 = .ok (.istore_n 3, 1) := by decide +kernel
theorem dX8_typeOfRecord_2 : decode cX8_typeOfRecord 2 = .ok (.iload_n 3, 1) := by decide +kernel
theorem dX8_typeOfRecord_3 : decode cX8_typeOfRecord 3 = .ok (.aload_n 0, 1) := by decide +kernel
theorem dX8_typeOfRecord_4 : decode cX8_typeOfRecord 4 = .ok (.getfield 16, 3) := by decide +kernel
theorem dX8_typeOfRecord_7 : decode cX8_typeOfRecord 7 = .ok (.iload_n 1, 1) := by decide +kernel
theorem dX8_typeOfRecord_8 : decode cX8_typeOfRecord 8 = .ok (.iaload, 1) := by decide +kernel
theorem dX8_typeOfRecord_9 : decode cX8_typeOfRecord 9 = .ok (.if_icmp .ge 51, 3) := by decide +kernel
theorem dX8_typeOfRecord_60 : decode cX8_typeOfRecord 60 = .ok (.aload_n 0, 1) := by decide +kernel
theorem dX8_typeOfRecord_61 : decode cX8_typeOfRecord 61 = .ok (.getfield 184, 3) := by decide +kernel
theorem dX8_typeOfRecord_64 : decode cX8_typeOfRecord 64 = .ok (.ifCond .eq 6, 3) := by decide +kernel
theorem dX8_typeOfRecord_70 : decode cX8_typeOfRecord 70 = .ok (.aload_n 0, 1) := by decide +kernel
theorem dX8_typeOfRecord_71 : decode cX8_typeOfRecord 71 = .ok (.iload_n 1, 1) := by decide +kernel
theorem dX8_typeOfRecord_72 : decode cX8_typeOfRecord 72 = .ok (.putfield 202, 3) := by decide +kernel
theorem dX8_typeOfRecord_75 : decode cX8_typeOfRecord 75 = .ok (.aload_n 0, 1) := by decide +kernel
theorem dX8_typeOfRecord_76 : decode cX8_typeOfRecord 76 = .ok (.invokevirtual 257, 3) := by decide +kernel
theorem dX8_typeOfRecord_79 : decode cX8_typeOfRecord 79 = .ok (.istore_n 3, 1) := by decide +kernel
theorem dX8_typeOfRecord_80 : decode cX8_typeOfRecord 80 = .ok (.aload_n 0, 1) := by decide +kernel
theorem dX8_typeOfRecord_81 : decode cX8_typeOfRecord 81 = .ok (.dup, 1) := by decide +kernel
theorem dX8_typeOfRecord_82 : decode cX8_typeOfRecord 82 = .ok (.getfield 254, 3) := by decide +kernel
theorem dX8_typeOfRecord_85 : decode cX8_typeOfRecord 85 = .ok (.aload_n 0, 1) := by decide +kernel
theorem dX8_typeOfRecord_86 : decode cX8_typeOfRecord 86 = .ok (.getfield 16, 3) := by decide +kernel
theorem dX8_typeOfRecord_89 : decode cX8_typeOfRecord 89 = .ok (.iload_n 1, 1) := by decide +kernel
theorem dX8_typeOfRecord_90 : decode cX8_typeOfRecord 90 = .ok (.iaload, 1) := by decide +kernel
theorem dX8_typeOfRecord_91 : decode cX8_typeOfRecord 91 = .ok (.isub, 1) := by decide +kernel
theorem dX8_typeOfRecord_92 : decode cX8_typeOfRecord 92 = .ok (.putfield 254, 3) := by decide +kernel
theorem dX8_typeOfRecord_95 : decode cX8_typeOfRecord 95 = .ok (.iconst 0, 1) := by decide +kernel
theorem dX8_typeOfRecord_96 : decode cX8_typeOfRecord 96 = .ok (.istore 4, 2) := by decide +kernel
theorem dX8_typeOfRecord_98 : decode cX8_typeOfRecord 98 = .ok (.iload 4, 2) := by decide +kernel
theorem dX8_typeOfRecord_100 : decode cX8_typeOfRecord 100 = .ok (.aload_n 0, 1) := by decide +kernel
theorem dX8_typeOfRecord_101 : decode cX8_typeOfRecord 101 = .ok (.getfield 16, 3) := by decide +kernel
theorem dX8_typeOfRecord_104 : decode cX8_typeOfRecord 104 = .ok (.iload_n 1, 1) := by decide +kernel
theorem dX8_typeOfRecord_105 : decode cX8_typeOfRecord 105 = .ok (.iaload, 1) := by decide +kernel
theorem dX8_typeOfRecord_106 : decode cX8_typeOfRecord 106 = .ok (.if_icmp .ge 44, 3) := by decide +kernel
theorem dX8_typeOfRecord_150 : decode cX8_typeOfRecord 150 = .ok (.iload_n 3, 1) := by decide +kernel
theorem dX8_typeOfRecord_151 : decode cX8_typeOfRecord 151 = .ok (.ireturn, 1) := by decide +kernel
theorem dX8_typeOfRecord_109 : decode cX8_typeOfRecord 109 = .ok (.iload_n 3, 1) := by decide +kernel
theorem dX8_typeOfRecord_110 : decode cX8_typeOfRecord 110 = .ok (.bipush (-9), 2) := by decide +kernel
theorem dX8_typeOfRecord_112 : decode cX8_typeOfRecord 112 = .ok (.if_icmp .eq 38, 3) := by decide +kernel
theorem dX8_typeOfRecord_115 : decode cX8_typeOfRecord 115 = .ok (.aload_n 0, 1) := by decide +kernel
theorem dX8_typeOfRecord_116 : decode cX8_typeOfRecord 116 = .ok (.iload_n 3, 1) := by decide +kernel
theorem dX8_typeOfRecord_117 : decode cX8_typeOfRecord 117 = .ok (.aload_n 0, 1) := by decide +kernel
theorem dX8_typeOfRecord_118 : decode cX8_typeOfRecord 118 = .ok (.getfield 22, 3) := by decide +kernel
theorem dX8_typeOfRecord_121 : decode cX8_typeOfRecord 121 = .ok (.bipush 6, 2) := by decide +kernel
theorem dX8_typeOfRecord_123 : decode cX8_typeOfRecord 123 = .ok (.iload_n 1, 1) := by decide +kernel
theorem dX8_typeOfRecord_124 : decode cX8_typeOfRecord 124 = .ok (.imul, 1) := by decide +kernel
theorem dX8_typeOfRecord_125 : decode cX8_typeOfRecord 125 = .ok (.iload 4, 2) := by decide +kernel
theorem dX8_typeOfRecord_127 : decode cX8_typeOfRecord 127 = .ok (.iadd, 1) := by decide +kernel
theorem dX8_typeOfRecord_128 : decode cX8_typeOfRecord 128 = .ok (.iaload, 1) := by decide +kernel
theorem dX8_typeOfRecord_129 : decode cX8_typeOfRecord 129 = .ok (.aload_n 0, 1) := by decide +kernel
theorem dX8_typeOfRecord_130 : decode cX8_typeOfRecord 130 = .ok (.getfield 77, 3) := by decide +kernel
theorem dX8_typeOfRecord_133 : decode cX8_typeOfRecord 133 = .ok (.aload_n 0, 1) := by decide +kernel
theorem dX8_typeOfRecord_134 : decode cX8_typeOfRecord 134 = .ok (.getfield 254, 3) := by decide +kernel
theorem dX8_typeOfRecord_137 : decode cX8_typeOfRecord 137 = .ok (.iload 4, 2) := by decide +kernel
theorem dX8_typeOfRecord_139 : decode cX8_typeOfRecord 139 = .ok (.iadd, 1) := by decide +kernel
theorem dX8_typeOfRecord_140 : decode cX8_typeOfRecord 140 = .ok (.iaload, 1) := by decide +kernel
theorem dX8_typeOfRecord_141 : decode cX8_typeOfRecord 141 = .ok (.invokevirtual 261, 3) := by decide +kernel
theorem dX8_typeOfRecord_144 : decode cX8_typeOfRecord 144 = .ok (.iinc 4 1, 3) := by decide +kernel
theorem dX8_typeOfRecord_147 : decode cX8_typeOfRecord 147 = .ok (.goto (-49), 3) := by decide +kernel
theorem dX8_typeOfRecord_67 : decode cX8_typeOfRecord 67 = .ok (.bipush (-9), 2) := by decide +kernel
theorem dX8_typeOfRecord_69 : decode cX8_typeOfRecord 69 = .ok (.ireturn, 1) := by decide +kernel
theorem dX8_typeOfRecord_12 : decode cX8_typeOfRecord 12 = .ok (.aload_n 0, 1) := by decide +kernel
theorem dX8_typeOfRecord_13 : decode cX8_typeOfRecord 13 = .ok (.getfield 184, 3) := by decide +kernel
theorem dX8_typeOfRecord_16 : decode cX8_typeOfRecord 16 = .ok (.ifCond .ne 44, 3) := by decide +kernel
theorem dX8_typeOfRecord_19 : decode cX8_typeOfRecord 19 = .ok (.aload_n 0, 1) := by decide +kernel
theorem dX8_typeOfRecord_20 : decode cX8_typeOfRecord 20 = .ok (.getfield 77, 3) := by decide +kernel
theorem dX8_typeOfRecord_23 : decode cX8_typeOfRecord 23 = .ok (.aload_n 0, 1) := by decide +kernel
theorem dX8_typeOfRecord_24 : decode cX8_typeOfRecord 24 = .ok (.getfield 254, 3) := by decide +kernel
theorem dX8_typeOfRecord_27 : decode cX8_typeOfRecord 27 = .ok (.aload_n 0, 1) := by decide +kernel
theorem dX8_typeOfRecord_28 : decode cX8_typeOfRecord 28 = .ok (.aload_n 0, 1) := by decide +kernel
theorem dX8_typeOfRecord_29 : decode cX8_typeOfRecord 29 = .ok (.getfield 19, 3) := by decide +kernel
theorem dX8_typeOfRecord_32 : decode cX8_typeOfRecord 32 = .ok (.bipush 6, 2) := by decide +kernel
theorem dX8_typeOfRecord_34 : decode cX8_typeOfRecord 34 = .ok (.iload_n 1, 1) := by decide +kernel
theorem dX8_typeOfRecord_35 : decode cX8_typeOfRecord 35 = .ok (.imul, 1) := by decide +kernel
theorem dX8_typeOfRecord_36 : decode cX8_typeOfRecord 36 = .ok (.iload_n 3, 1) := by decide +kernel
theorem dX8_typeOfRecord_37 : decode cX8_typeOfRecord 37 = .ok (.iadd, 1) := by decide +kernel
theorem dX8_typeOfRecord_38 : decode cX8_typeOfRecord 38 = .ok (.iaload, 1) := by decide +kernel
theorem dX8_typeOfRecord_39 : decode cX8_typeOfRecord 39 = .ok (.iload_n 2, 1) := by decide +kernel
theorem dX8_typeOfRecord_40 : decode cX8_typeOfRecord 40 = .ok (.invokevirtual 280, 3) := by decide +kernel
theorem dX8_typeOfRecord_43 : decode cX8_typeOfRecord 43 = .ok (.iastore, 1) := by decide +kernel
theorem dX8_typeOfRecord_44 : decode cX8_typeOfRecord 44 = .ok (.aload_n 0, 1) := by decide +kernel
theorem dX8_typeOfRecord_45 : decode cX8_typeOfRecord 45 = .ok (.dup, 1) := by decide +kernel
theorem dX8_typeOfRecord_46 : decode cX8_typeOfRecord 46 = .ok (.getfield 254, 3) := by decide +kernel
theorem dX8_typeOfRecord_49 : decode cX8_typeOfRecord 49 = .ok (.iconst 1, 1) := by decide +kernel
theorem dX8_typeOfRecord_50 : decode cX8_typeOfRecord 50 = .ok (.iadd, 1) := by decide +kernel
theorem dX8_typeOfRecord_51 : decode cX8_typeOfRecord 51 = .ok (.putfield 254, 3) := by decide +kernel
theorem dX8_typeOfRecord_54 : decode cX8_typeOfRecord 54 = .ok (.iinc 3 1, 3) := by decide +kernel
theorem dX8_typeOfRecord_57 : decode cX8_typeOfRecord 57 = .ok (.goto (-55), 3) := by decide +kernel
set_option maxHeartbeats 4000000 in
set_option maxRecDepth 100000 in
/-- typeOfRecord -/
theorem m_typeOfRecord (l : Launch) (G : mG) (hDD : mDD G) (o : Nat → Int32) (F : Nat → Nat → Int32) (fu : Nat) (tr : aM) (N : Nat) (top : Nat) (gs : Nat → Prop) (z : aS) (ix : Nat → Nat → Nat) (lf : Nat) (an : Nat) (n : Nat) (lv : Nat) (hm : Nat) (d : Nat) (ih : mTyAt fu) (hTS : TS tr N top gs z ix lf an o F) (hn : n < N) (htp : top < N) (hup : UpT tr top d n) (hC : ∀ j, Cv gs tr top j n) (hdf : d + (fu + 1) ≤ 60) (hlv : lv + (fu + 1) ≤ 60) (hh : o 39 = nI hm) (hhm : hm ≤ 100000) (hb0 : bnd (ty tr top (fu + 1) z n lv).1 ≤ 200000) (han : an + cntT tr ((fu + 1)) n ≤ 1000000) (hh2 : hm + 6 * (fu + 1) + 720 ≤ 8000) (hd : o 34 = nI (60 - fu)) (hfu : fu < 60) (h0 : sto z = 0) (hk5 : tr 0 n = 5) (sz : Nat) : Met l yX8_typeOfRecord (wU yX8_typeOfRecord cX8_typeOfRecord 5 (some .int)) { frames := 3 * fu + 321, cells := 0, slots := 0, locals := 80 * fu + 9123 } (mPc G o F sz [.ref (mh G), .int (nI n), .int (nI lv)]) (mQi G sz (fun r u => (∃ ix' lf' an' gs', TW tr N top gs z ix an gs' (ty tr top (fu + 1) z n lv).1 ix' lf' an' (cntT tr (fu + 1) n) (fu + 1 + 60) o F u) ∧ (sto (ty tr top (fu + 1) z n lv).1 = 0 → r = nI (ty tr top (fu + 1) z n lv).2 ∧ (ty tr top (fu + 1) z n lv).2 < nT (ty tr top (fu + 1) z n lv).1))) 0 0 (mA G sz) := by
  refine Met.ofW (cc := cX8_typeOfRecord) (maxL := 5) (ret := (some .int)) (by decide) rfl ?_
  intro p e s m args below meth c s₁ B hml hv
  obtain ⟨rfl, hsz, hP, hK⟩ := hv
  have hx := B.exec
  have hb := B.bytes
  have hr := B.returns
  have htu : ∀ w ∈ WU, w.before _ s = true := fun w h => atoms_spec (ws := (wU yX8_typeOfRecord cX8_typeOfRecord 5 (some .int))) B.pre w (List.mem_cons_of_mem _ h)
  have hown : s.vm.findClass RX8 = some m.cls := findClass_of_methodNamed B.named
  have hlocks := B.notSynchronized
  subst hsz
  have hS : va_S (mA G s.heap.size) s.heap s.heap [] := va_S.rf
  have hl := lv_entry ([.ref (mh G), .int (nI n), .int (nI lv)]) (n := 5) (Nat.le_of_ble_eq_true rfl)
  rw [lg_entry_eq]
  generalize (lg_sl ([.ref (mh G), .int (nI n), .int (nI lv)]) ++ List.replicate (5 - (lg_sl ([.ref (mh G), .int (nI n), .int (nI lv)])).length) Slot.unset).toArray = ls at hl ⊢
  have hl : lv_has ls 5 [(0, .ref (mh G)), (1, .int (nI n)), (2, .int (nI lv))] := hl
  obtain ⟨H, hHe⟩ : ∃ H : Heap, H = s.heap := ⟨_, rfl⟩
  rw [← hHe] at hP
  have hS : va_S (mA G s.heap.size) s.heap H [] := by rw [hHe]; exact va_S.rf
  refine W.heq hHe ?_
  have hTS2 := hTS
  obtain ⟨hR, hT, hG, ⟨hM0, hl0, hlf⟩, ⟨hN0, hn0⟩, hu0, hd0, ha0, htop⟩ := hTS2
  obtain ⟨b1, b2, b3, b4, b5, b6, b7, b8⟩ := hR.2.1
  have hN := hT.2.1
  have t0 := hT.2.2 n hn
  have t2 := t0.2.2.2.1
  have t26 := t0.2.2.2.2.1
  have pe : prts (tr 0 n) (tr 2 n) = tr 2 n := by rw [hk5]; rfl
  have ce := ty_5 (tr := tr) (top := top) (k := fu) (n := n) (l := lv) h0 hk5
  have cc := csum_5 (k := fu) hk5
  have hbL : bnd (cpL (fun s x => ty tr top fu s x lv) z (pLs tr n)).1 ≤ 200000 := by rw [ce] at hb0; refine Nat.le_trans ?_ hb0; split; exact Nat.le_refl _; rw [b_mkR, b_w1 _ _ _ _ (by omega)]; exact Nat.le_refl _
  refine lv_iconst (v := 0) hx hb dX8_typeOfRecord_0 (by decide) ?_
  refine lv_istore_n (lv' := [(3, .int 0), (0, .ref (mh G)), (1, .int (nI n)), (2, .int (nI lv))]) hx hb dX8_typeOfRecord_1 rfl hl (by decide) rfl (fun ls hl => ?_)
  refine w_loop (fun j H locs k sl g => ∃ (i : Nat) (zi : aS) (ix1 : Nat → Nat → Nat) (lf1 : Nat) (an1 : Nat) (gs1 : Nat → Prop) (acc : List Nat) (o1 : Nat → Int32) (F1 : Nat → Nat → Int32) (ls : Array Slot), i + j = tr 2 n ∧ Cl (fun s x => ty tr top fu s x lv) z (pLs tr n) zi acc i ∧ TS tr N top gs1 zi ix1 lf1 an1 o1 F1 ∧ Px z ix ix1 ∧ Lx z zi ∧ an1 ≤ an + csum tr fu n i ∧ (∀ q, gs q → gs1 q) ∧ o1 34 = o 34 ∧ Kq LT o F (o1, F1) ∧ (sto zi = 0 → o1 39 = nI (hm + i) ∧ ∀ q, q < i → F1 38 (hm + q) = nI (acc.getD q 0) ∧ acc.getD q 0 < nT zi) ∧ (∃ h9, o1 39 = nI h9 ∧ hm ≤ h9 ∧ h9 ≤ hm + 6 * (fu + 60) + i) ∧ (∀ q, q < hm → F1 38 q = F 38 q) ∧ k = 0 ∧ sl = 0 ∧ mP G o1 F1 H ∧ va_S (mA G s.heap.size) s.heap H locs ∧ lv_has ls 5 [(3, .int (nI i)), (0, .ref (mh G)), (1, .int (nI n)), (2, .int (nI lv))] ∧ g = F0 m 2 ls []) ?_ ?_ (tr 2 n) _ _ _ _ _ ⟨0, z, ix, lf, an, gs, [], o, F, ls, by omega, Cl.start, hTS, Px.rf, Lx.rf, Nat.le_add_right _ _, (fun q h => h), rfl, Kq.rf, (fun _ => ⟨hh, fun q hq => absurd hq (by omega)⟩), ⟨hm, hh, Nat.le_refl _, by omega⟩, (fun q hq => rfl), rfl, rfl, hP, hS, lv_sub hl [0, 1, 2, 3] rfl, rfl⟩
  · intro H locs k sl g hI
    obtain ⟨i, zi, ix1, lf1, an1, gs1, acc, o1, F1, ls, hp0, hp1, hp2, hp3, hp4, hp5, hp6, hp7, hp8, hp9, hp10, hp11, rfl, rfl, hP, hS, hl, rfl⟩ := hI
    have q0 := hp2.2.1.2.2 n hn
    have q1 := q0.2.2.2.1
    obtain ⟨n1, n2, n3, n4, n5, n6, n7, n8⟩ := hp2.1.2.1
    refine lv_iload_n hx hb dX8_typeOfRecord_2 rfl (lv_at hl 0 rfl) ?_
    refine lv_aload_n hx hb dX8_typeOfRecord_3 rfl (lv_at hl 1 rfl) ?_
    refine m_get (v := .ref (md G 3)) hx hb htu wu_in hown hK hP 3 (by decide) (htu _ U_4) rfl rfl dX8_typeOfRecord_4 ?_
    refine lv_iload_n hx hb dX8_typeOfRecord_7 rfl (lv_at hl 2 rfl) ?_
    refine m_ald (j := n) (v := nI (tr 2 n)) hx hb hK hP 3 3 rfl (by omega) (by decide) q1 dX8_typeOfRecord_8 ?_
    refine lv_icmp_ge (tgt := 60) hx hb dX8_typeOfRecord_9 (by decide) (fun c_1 => ?_) (fun c_1 => absurd (nI_le (by omega) (by omega)) c_1)
    refine lv_aload_n hx hb dX8_typeOfRecord_60 rfl (lv_at hl 1 rfl) ?_
    refine m_get (v := .int (sc (sto zi))) hx hb htu wu_in hown hK hP 27 (by decide) (htu _ U_45) rfl (m_v hp2.1.1.2.2.2.2.1) dX8_typeOfRecord_61 ?_
    refine lv_if_eq (tgt := 70) hx hb dX8_typeOfRecord_64 (by decide) (fun c_2 => ?_) (fun c_2 => ?_)
    · skip
      have g0 : sto zi = 0 := sc_0.mp c_2
      obtain ⟨k1, k2⟩ := hp9 g0
      have ni : i = tr 2 n := by omega
      subst ni
      obtain ⟨d1, d2⟩ := hp1.done (by rw [pLs_len]; exact Nat.le_refl _)
      obtain ⟨ZA, eZA⟩ : ∃ y, y = w1 zi 0 5 n := ⟨_, rfl⟩
      have hA := TW.ask (k := fu + 1 + 60) (n := n) hp2 (by omega)
      rw [← eZA] at hA
      have cA : ty tr top (fu + 1) z n lv = mkR ZA (lLs tr n) acc := by rw [ce, d1, d2, eZA]; exact if_neg (not_not_intro g0)
      have gA : sto ZA = 0 := by rw [eZA]; exact g0
      have nA : nT ZA = nT zi := by rw [eZA]; rfl
      have xA : Lx z ZA := hp4.tr hA.2.2.2.2.2.2.2.1
      refine lv_aload_n hx hb dX8_typeOfRecord_70 rfl (lv_at hl 1 rfl) ?_
      refine lv_iload_n hx hb dX8_typeOfRecord_71 rfl (lv_at hl 2 rfl) ?_
      refine m_put (ty := .int) (x := nI n) hx hb htu wu_in hown hK hP hDD hS 25 (by decide) (htu _ U_61) rfl rfl (by decide +kernel) rfl rfl (mO_s25 _ _ _) dX8_typeOfRecord_72 (fun H locs hP hS => ?_)
      refine lv_aload_n hx hb dX8_typeOfRecord_75 rfl (lv_at hl 1 rfl) ?_
      refine m_ci (m_runV (As := []) (rest := []) ⟨hx, hb, hml, hown, htu⟩ (m_row l G hDD (upd o1 25 (nI n)) F1 ZA ix1 hA.1.1 H.size) (cwV 0 htu gU_X8_row rfl rfl rfl (by decide +kernel) ⟨show 2 + 1 ≤ 3 * fu + 321 by omega, show 8 + (2 + 11) + 44 ≤ 80 * fu + 9123 by omega⟩) hP hK rfl hl.1 rfl (lv_room (Nat.le_of_ble_eq_true rfl)) dX8_typeOfRecord_76) hS (fun r_3 o_4 F_5 H locs hw_6 hP hS => ?_)
      try dsimp only at hw_6
      rcases hw_6 with ⟨g1, -⟩ | ⟨g1, g2, g3, g4, g5⟩ | ⟨g1, g2, g3, g4⟩
      · exact absurd gA g1
      · skip
        subst g3
        refine lv_istore_n (lv' := [(3, .int ((-9))), (0, .ref (mh G)), (1, .int (nI n)), (2, .int (nI lv))]) hx hb dX8_typeOfRecord_79 rfl hl (by decide) rfl (fun ls hl => ?_)
        refine lv_aload_n hx hb dX8_typeOfRecord_80 rfl (lv_at hl 1 rfl) ?_
        refine lv_dup hx hb dX8_typeOfRecord_81 rfl ?_
        refine m_get (v := .int (nI (hm + tr 2 n))) hx hb htu wu_in hown hK hP 39 (by decide) (htu _ U_57) rfl (m_v ((g5 39 (by decide)).1.trans k1)) dX8_typeOfRecord_82 ?_
        refine lv_aload_n hx hb dX8_typeOfRecord_85 rfl (lv_at hl 1 rfl) ?_
        refine m_get (v := .ref (md G 3)) hx hb htu wu_in hown hK hP 3 (by decide) (htu _ U_4) rfl rfl dX8_typeOfRecord_86 ?_
        refine lv_iload_n hx hb dX8_typeOfRecord_89 rfl (lv_at hl 2 rfl) ?_
        refine m_ald (j := n) (v := nI (tr 2 n)) hx hb hK hP 3 3 rfl (by omega) (by decide) ((congrFun (g5 3 (by decide)).2 n).trans q1) dX8_typeOfRecord_90 ?_
        refine lv_isub hx hb dX8_typeOfRecord_91 ?_
        refine m_top (y := nI hm) ((pk_sub (by omega)).trans (congrArg nI (by omega))) ?_
        refine m_put (ty := .int) (x := nI hm) hx hb htu wu_in hown hK hP hDD hS 39 (by decide) (htu _ U_57) rfl rfl (by decide +kernel) rfl rfl (mO_s39 _ _ _) dX8_typeOfRecord_92 (fun H locs hP hS => ?_)
        refine lv_iconst (v := 0) hx hb dX8_typeOfRecord_95 (by decide) ?_
        refine lv_istore (lv' := [(4, .int 0), (3, .int ((-9))), (0, .ref (mh G)), (1, .int (nI n)), (2, .int (nI lv))]) hx hb dX8_typeOfRecord_96 hl (by decide) rfl (fun ls hl => ?_)
        refine lv_iload hx hb dX8_typeOfRecord_98 (lv_at hl 0 rfl) ?_
        refine lv_aload_n hx hb dX8_typeOfRecord_100 rfl (lv_at hl 2 rfl) ?_
        refine m_get (v := .ref (md G 3)) hx hb htu wu_in hown hK hP 3 (by decide) (htu _ U_4) rfl rfl dX8_typeOfRecord_101 ?_
        refine lv_iload_n hx hb dX8_typeOfRecord_104 rfl (lv_at hl 3 rfl) ?_
        refine m_ald (j := n) (v := nI (tr 2 n)) hx hb hK hP 3 3 rfl (by omega) (by decide) ((congrFun (g5 3 (by decide)).2 n).trans q1) dX8_typeOfRecord_105 ?_
        refine lv_icmp_ge (tgt := 150) hx hb dX8_typeOfRecord_106 (by decide) (fun c_7 => ?_) (fun c_7 => ?_)
        · skip
          have nc_7 : tr 2 n ≤ 0 := (nI_leI (a := tr 2 n) (b := 0) (by omega) (by omega)).mp c_7
          refine lv_iload_n hx hb dX8_typeOfRecord_150 rfl (lv_at hl 1 rfl) ?_
          have X9 := TW.leaf (k := fu + 1 + 60) hA.1 g4 Px.rf g5 (by decide) (x_stops _ _ _) (k_stops _ _ _) stops_sto0
          exact m_iret (v := (-9)) hx hb hr hK hP hS (by rw [cA, show mkR ZA (lLs tr n) acc = (stops ZA 1 (askn ZA), 0) from (if_neg (not_not_intro g1)).trans (if_pos g2)]; exact ⟨⟨ix1, lf1, an1, gs1, X9.1, hp3, by omega, hp6, ⟨fun h => absurd h (stops_sto hA.1.1), fun h hl hq => by have := (nI_eq (by omega) hl).mp (hh.symm.trans hq); subst this; exact ⟨hm, rfl, Nat.le_refl _, by omega, fun q hq2 => (congrFun (g5 38 (by decide)).2 q).trans (hp11 q hq2)⟩, fun h => absurd h0 h⟩, (X9.2.2.2.2.2.1).trans hp7, Kq.o (Kq.tr (Kq.o hp8 (by decide)) X9.2.2.2.2.2.2.1) (by decide), xA.tr X9.2.2.2.2.2.2.2.1, fun _ => h0⟩, fun h => absurd h (stops_sto hA.1.1)⟩) dX8_typeOfRecord_151 hlocks
        · skip
          have nc_7 : ¬ tr 2 n ≤ 0 := fun h9 => c_7 ((nI_leI (a := tr 2 n) (b := 0) (by omega) (by omega)).mpr h9)
          refine lv_iload_n hx hb dX8_typeOfRecord_109 rfl (lv_at hl 1 rfl) ?_
          refine lv_bipush (v := (-9)) hx hb dX8_typeOfRecord_110 (by decide) ?_
          refine lv_icmp_eq (tgt := 150) hx hb dX8_typeOfRecord_112 (by decide) (fun c_8 => ?_) (fun c_8 => absurd (by decide) c_8)
          refine lv_iload_n hx hb dX8_typeOfRecord_150 rfl (lv_at hl 1 rfl) ?_
          have X9 := TW.leaf (k := fu + 1 + 60) hA.1 g4 Px.rf g5 (by decide) (x_stops _ _ _) (k_stops _ _ _) stops_sto0
          exact m_iret (v := (-9)) hx hb hr hK hP hS (by rw [cA, show mkR ZA (lLs tr n) acc = (stops ZA 1 (askn ZA), 0) from (if_neg (not_not_intro g1)).trans (if_pos g2)]; exact ⟨⟨ix1, lf1, an1, gs1, X9.1, hp3, by omega, hp6, ⟨fun h => absurd h (stops_sto hA.1.1), fun h hl hq => by have := (nI_eq (by omega) hl).mp (hh.symm.trans hq); subst this; exact ⟨hm, rfl, Nat.le_refl _, by omega, fun q hq2 => (congrFun (g5 38 (by decide)).2 q).trans (hp11 q hq2)⟩, fun h => absurd h0 h⟩, (X9.2.2.2.2.2.1).trans hp7, Kq.o (Kq.tr (Kq.o hp8 (by decide)) X9.2.2.2.2.2.2.1) (by decide), xA.tr X9.2.2.2.2.2.2.2.1, fun _ => h0⟩, fun h => absurd h (stops_sto hA.1.1)⟩) dX8_typeOfRecord_151 hlocks
      · skip
        subst g3
        obtain ⟨rfl, rfl⟩ := Prod.mk.inj g4
        refine lv_istore_n (lv' := [(3, .int (nI (nT ZA))), (0, .ref (mh G)), (1, .int (nI n)), (2, .int (nI lv))]) hx hb dX8_typeOfRecord_79 rfl hl (by decide) rfl (fun ls hl => ?_)
        refine lv_aload_n hx hb dX8_typeOfRecord_80 rfl (lv_at hl 1 rfl) ?_
        refine lv_dup hx hb dX8_typeOfRecord_81 rfl ?_
        refine m_get (v := .int (nI (hm + tr 2 n))) hx hb htu wu_in hown hK hP 39 (by decide) (htu _ U_57) rfl (m_v k1) dX8_typeOfRecord_82 ?_
        refine lv_aload_n hx hb dX8_typeOfRecord_85 rfl (lv_at hl 1 rfl) ?_
        refine m_get (v := .ref (md G 3)) hx hb htu wu_in hown hK hP 3 (by decide) (htu _ U_4) rfl rfl dX8_typeOfRecord_86 ?_
        refine lv_iload_n hx hb dX8_typeOfRecord_89 rfl (lv_at hl 2 rfl) ?_
        refine m_ald (j := n) (v := nI (tr 2 n)) hx hb hK hP 3 3 rfl (by omega) (by decide) q1 dX8_typeOfRecord_90 ?_
        refine lv_isub hx hb dX8_typeOfRecord_91 ?_
        refine m_top (y := nI hm) ((pk_sub (by omega)).trans (congrArg nI (by omega))) ?_
        refine m_put (ty := .int) (x := nI hm) hx hb htu wu_in hown hK hP hDD hS 39 (by decide) (htu _ U_57) rfl rfl (by decide +kernel) rfl rfl (mO_s39 _ _ _) dX8_typeOfRecord_92 (fun H locs hP hS => ?_)
        refine lv_iconst (v := 0) hx hb dX8_typeOfRecord_95 (by decide) ?_
        refine lv_istore (lv' := [(4, .int 0), (3, .int (nI (nT ZA))), (0, .ref (mh G)), (1, .int (nI n)), (2, .int (nI lv))]) hx hb dX8_typeOfRecord_96 hl (by decide) rfl (fun ls hl => ?_)
        refine w_loop (fun j H locs k sl g => ∃ (i2 : Nat) (o2 : Nat → Int32) (F2 : Nat → Nat → Int32) (ls : Array Slot), i2 + j = tr 2 n ∧ Rp ZA (upd (upd o1 25 (nI n)) 39 (nI hm)) F1 ((lLs tr n).take i2) (acc.take i2) o2 F2 ∧ k = 0 ∧ sl = 0 ∧ mP G o2 F2 H ∧ va_S (mA G s.heap.size) s.heap H locs ∧ lv_has ls 5 [(3, .int (nI (nT ZA))), (4, .int (nI i2)), (0, .ref (mh G)), (1, .int (nI n)), (2, .int (nI lv))] ∧ g = F0 m 98 ls []) ?_ ?_ (tr 2 n) _ _ _ _ _ ⟨0, upd (upd (upd o1 25 (nI n)) 7 (nI (nT ZA + 1))) 39 (nI hm), fput (fput (fput F1 8 (nT ZA) (nI 2)) 9 (nT ZA) (nI 0)) 10 (nT ZA) (nI 0), ls, by omega, (by have := Rp.start (s := ZA) (o0 := upd (upd o1 25 (nI n)) 39 (nI hm)) (F0 := F1); rw [upd_c (show (39 : Nat) ≠ 7 by decide)] at this; exact this), rfl, rfl, hP, hS, lv_sub hl [1, 0, 2, 3, 4] rfl, rfl⟩
        · intro H locs k sl g hI
          obtain ⟨i2, o2, F2, ls, hq0, hq1, rfl, rfl, hP, hS, hl, rfl⟩ := hI
          have p39 : o2 39 = nI hm := by rw [hq1.1.1]; rfl
          have p10 : F2 3 n = nI (tr 2 n) := by rw [hq1.2.2.2 3 (by decide)]; exact q1
          refine lv_iload hx hb dX8_typeOfRecord_98 (lv_at hl 1 rfl) ?_
          refine lv_aload_n hx hb dX8_typeOfRecord_100 rfl (lv_at hl 2 rfl) ?_
          refine m_get (v := .ref (md G 3)) hx hb htu wu_in hown hK hP 3 (by decide) (htu _ U_4) rfl rfl dX8_typeOfRecord_101 ?_
          refine lv_iload_n hx hb dX8_typeOfRecord_104 rfl (lv_at hl 3 rfl) ?_
          refine m_ald (j := n) (v := nI (tr 2 n)) hx hb hK hP 3 3 rfl (by omega) (by decide) p10 dX8_typeOfRecord_105 ?_
          refine lv_icmp_ge (tgt := 150) hx hb dX8_typeOfRecord_106 (by decide) (fun c_9 => ?_) (fun c_9 => absurd (nI_le (by omega) (by omega)) c_9)
          refine lv_iload_n hx hb dX8_typeOfRecord_150 rfl (lv_at hl 0 rfl) ?_
          have ni2 : i2 = tr 2 n := by omega
          subst ni2
          have aL : acc.take (tr 2 n) = acc := List.take_of_length_le (by rw [hp1.2.2]; exact Nat.le_refl _)
          have lL : (lLs tr n).take (tr 2 n) = lLs tr n := List.take_of_length_le (by rw [lLs_len]; exact Nat.le_refl _)
          rw [aL, lL] at hq1
          have hA2 : TS tr N top gs1 ZA ix1 lf1 an1 (upd (upd o1 25 (nI n)) 39 (nI hm)) F1 := hA.1
          obtain ⟨e1, e2, e3, e4, e5⟩ := Rp.done (ix := ix1) hq1 hA2.1 gA g2 (by rw [hp1.2.2]; exact t26)
          have X9 := TW.leaf (k := fu + 1 + 60) hA2 e1 Px.rf e5 (by decide) (x_mkR _ _ _) (k_mkR _ _ _) mkR_sto
          exact m_iret (v := nI (nT ZA)) hx hb hr hK hP hS (by rw [cA]; exact ⟨⟨ix1, lf1, an1, gs1, X9.1, hp3, by omega, hp6, ⟨fun _ => p39.trans hh.symm, fun h hl hq => by have := (nI_eq (by omega) hl).mp (hh.symm.trans hq); subst this; exact ⟨hm, p39, Nat.le_refl _, by omega, fun q hq2 => (congrFun (e5 38 (by decide)).2 q).trans (hp11 q hq2)⟩, fun h => absurd h0 h⟩, (X9.2.2.2.2.2.1).trans hp7, Kq.tr (Kq.o (Kq.o hp8 (by decide)) (by decide)) X9.2.2.2.2.2.2.1, xA.tr X9.2.2.2.2.2.2.2.1, fun _ => h0⟩, fun _ => ⟨by rw [e2], by rw [e2, e4]; omega⟩⟩) dX8_typeOfRecord_151 hlocks
        · intro j ih9 H locs k sl g hI
          obtain ⟨i2, o2, F2, ls, hq0, hq1, rfl, rfl, hP, hS, hl, rfl⟩ := hI
          have p39 : o2 39 = nI hm := by rw [hq1.1.1]; rfl
          have p10 : F2 3 n = nI (tr 2 n) := by rw [hq1.2.2.2 3 (by decide)]; exact q1
          have ni3 : i2 < tr 2 n := by omega
          have ni4 : i2 < acc.length := by rw [hp1.2.2]; omega
          have ni5 : i2 < (lLs tr n).length := by rw [lLs_len]; omega
          obtain ⟨k3, k4⟩ := k2 i2 ni3
          rw [← nA] at k4
          have tk : (acc.take i2).length = i2 := by rw [List.length_take]; omega
          have q8 := q0.2.2.2.2.2.2.2.1 hk5 i2 ni3
          have RA9 := hA.1.1.2.2.1
          have p12 : F2 5 (6 * n + i2) = nI ((lLs tr n).getD i2 0) := by rw [hq1.2.2.2 5 (by decide), lLs_at ni3]; exact q8.1
          have p38 : F2 38 (hm + i2) = nI (acc.getD i2 0) := by rw [hq1.2.2.2 38 (by decide)]; exact k3
          have p10b : F2 10 (nT ZA) = nI i2 := by rw [hq1.1.2.2.2.1, upd_s, tk]
          have p9 : F2 9 (acc.getD i2 0) = nI (lev ZA (acc.getD i2 0)) := by rw [hq1.1.2.2.1, upd_n (by omega)]; exact (RA9 _ k4).2.1
          have p9b : F2 9 (nT ZA) = nI (lmax ZA (acc.take i2)) := by rw [hq1.1.2.2.1, upd_s]
          have pl : lev ZA (acc.getD i2 0) ≤ 100 := (RA9 _ k4).2.2.2
          have pm : lmax ZA (acc.take i2) ≤ 100 := lmax_le (fun x hx => (RA9 x (by obtain ⟨q, hq, e⟩ := List.getElem_of_mem (List.mem_of_mem_take hx); have hq2 : q < tr 2 n := (by rw [← hp1.2.2]; exact hq); have := (k2 q hq2).2; rw [gtD hq, e, ← nA] at this; exact this)).2.2.2)
          refine lv_iload hx hb dX8_typeOfRecord_98 (lv_at hl 1 rfl) ?_
          refine lv_aload_n hx hb dX8_typeOfRecord_100 rfl (lv_at hl 2 rfl) ?_
          refine m_get (v := .ref (md G 3)) hx hb htu wu_in hown hK hP 3 (by decide) (htu _ U_4) rfl rfl dX8_typeOfRecord_101 ?_
          refine lv_iload_n hx hb dX8_typeOfRecord_104 rfl (lv_at hl 3 rfl) ?_
          refine m_ald (j := n) (v := nI (tr 2 n)) hx hb hK hP 3 3 rfl (by omega) (by decide) p10 dX8_typeOfRecord_105 ?_
          refine lv_icmp_ge (tgt := 150) hx hb dX8_typeOfRecord_106 (by decide) (fun c_10 => absurd c_10 (nI_ge ni3 (by omega))) (fun c_10 => ?_)
          refine lv_iload_n hx hb dX8_typeOfRecord_109 rfl (lv_at hl 0 rfl) ?_
          refine lv_bipush (v := (-9)) hx hb dX8_typeOfRecord_110 (by decide) ?_
          refine lv_icmp_eq (tgt := 150) hx hb dX8_typeOfRecord_112 (by decide) (fun c_11 => absurd c_11 (nI_neg (by decide) (by omega))) (fun c_11 => ?_)
          refine lv_aload_n hx hb dX8_typeOfRecord_115 rfl (lv_at hl 2 rfl) ?_
          refine lv_iload_n hx hb dX8_typeOfRecord_116 rfl (lv_at hl 0 rfl) ?_
          refine lv_aload_n hx hb dX8_typeOfRecord_117 rfl (lv_at hl 2 rfl) ?_
          refine m_get (v := .ref (md G 5)) hx hb htu wu_in hown hK hP 5 (by decide) (htu _ U_7) rfl rfl dX8_typeOfRecord_118 ?_
          refine lv_bipush (v := 6) hx hb dX8_typeOfRecord_121 (by decide) ?_
          refine lv_iload_n hx hb dX8_typeOfRecord_123 rfl (lv_at hl 3 rfl) ?_
          refine lv_imul hx hb dX8_typeOfRecord_124 ?_
          refine m_top (y := nI (6 * n)) (pk_mul 6 n) ?_
          refine lv_iload hx hb dX8_typeOfRecord_125 (lv_at hl 1 rfl) ?_
          refine lv_iadd hx hb dX8_typeOfRecord_127 ?_
          refine m_top (y := nI (6 * n + i2)) (nI_add (6 * n) i2) ?_
          refine m_ald (j := 6 * n + i2) (v := nI ((lLs tr n).getD i2 0)) hx hb hK hP 5 5 rfl (by omega) (by decide) p12 dX8_typeOfRecord_128 ?_
          refine lv_aload_n hx hb dX8_typeOfRecord_129 rfl (lv_at hl 2 rfl) ?_
          refine m_get (v := .ref (md G 38)) hx hb htu wu_in hown hK hP 38 (by decide) (htu _ U_75) rfl rfl dX8_typeOfRecord_130 ?_
          refine lv_aload_n hx hb dX8_typeOfRecord_133 rfl (lv_at hl 2 rfl) ?_
          refine m_get (v := .int (nI hm)) hx hb htu wu_in hown hK hP 39 (by decide) (htu _ U_57) rfl (m_v p39) dX8_typeOfRecord_134 ?_
          refine lv_iload hx hb dX8_typeOfRecord_137 (lv_at hl 1 rfl) ?_
          refine lv_iadd hx hb dX8_typeOfRecord_139 ?_
          refine m_top (y := nI (hm + i2)) (nI_add hm i2) ?_
          refine m_ald (j := hm + i2) (v := nI (acc.getD i2 0)) hx hb hK hP 23 38 rfl (by omega) (by decide) p38 dX8_typeOfRecord_140 ?_
          refine m_cv (m_runV (As := [.int (nI (nT ZA)), .int (nI ((lLs tr n).getD i2 0)), .int (nI (acc.getD i2 0))]) (rest := []) ⟨hx, hb, hml, hown, htu⟩ (m_addTo l G hDD o2 F2 (nT ZA) i2 (acc.getD i2 0) (nI ((lLs tr n).getD i2 0)) (lmax ZA (acc.take i2)) (lev ZA (acc.getD i2 0)) ((by omega)) ((by omega)) ((by omega)) p10b p9 p9b pm pl H.size) (cwV 3 htu gU_X8_addTo rfl rfl rfl (by decide +kernel) ⟨show 0 + 1 ≤ 3 * fu + 321 by omega, show 8 + (4 + 11) + 0 ≤ 80 * fu + 9123 by omega⟩) hP hK rfl hl.1 rfl (lv_room (Nat.le_of_ble_eq_true rfl)) dX8_typeOfRecord_141) hS (fun o_13 F_14 H locs hw_15 hP hS => ?_)
          try dsimp only at hw_15
          obtain ⟨h91, h92⟩ := Prod.mk.inj hw_15
          have h91 := h91.symm
          have h92 := h92.symm
          subst h91
          subst h92
          refine lv_iinc (v := nI (i2 + 1)) (lv' := [(4, .int (nI (i2 + 1))), (3, .int (nI (nT ZA))), (0, .ref (mh G)), (1, .int (nI n)), (2, .int (nI lv))]) hx hb dX8_typeOfRecord_144 hl (k := 1) rfl (nI_1 i2) (by decide) rfl (fun ls hl => ?_)
          refine lv_goto (tgt := 98) hx hb dX8_typeOfRecord_147 (by decide) ?_
          exact ih9 _ _ _ _ _ ⟨i2 + 1, o2, fput (fput (fput (fput F2 12 (6 * nT ZA + i2) (nI ((lLs tr n).getD i2 0))) 13 (6 * nT ZA + i2) (nI (acc.getD i2 0))) 10 (nT ZA) (nI (i2 + 1))) 9 (nT ZA) (nI (max (lmax ZA (acc.take i2)) (lev ZA (acc.getD i2 0)))), ls, by omega, (by have := hq1.add (la := (lLs tr n).getD i2 0) (x := acc.getD i2 0) (k := i2) (lv := max (lmax ZA (acc.take i2)) (lev ZA (acc.getD i2 0))) k4 (by rw [lLs_at ni3]; exact q8.2) tk.symm rfl; rw [← tkS ni4, ← tkS ni5] at this; exact this), rfl, rfl, hP, hS, lv_sub hl [1, 0, 2, 3, 4] rfl, rfl⟩
    · skip
      refine lv_bipush (v := (-9)) hx hb dX8_typeOfRecord_67 (by decide) ?_
      have hs9 : sto zi ≠ 0 := (fun h => c_2 (sc_0.mpr h))
      have e9 : (cpL (fun s x => ty tr top fu s x lv) z (pLs tr n)).1 = zi := hp1.stop hs9
      exact m_iret (v := (-9)) hx hb hr hK hP hS (by rw [ce, e9, if_pos hs9]; exact ⟨⟨ix1, lf1, an1, gs1, hp2, hp3, by have := csum_le (tr := tr) (k := fu) (n := n) (show i ≤ tr 2 n by omega); omega, hp6, ⟨fun h => absurd h hs9, fun h hl hq => by have h8 := (nI_eq (by omega) hl).mp (hh.symm.trans hq); subst h8; obtain ⟨h9, g1, g2, g3⟩ := hp10; exact ⟨h9, g1, g2, by omega, hp11⟩, fun h => absurd h0 h⟩, hp7, hp8, hp4, fun _ => h0⟩, fun h => absurd h hs9⟩) dX8_typeOfRecord_69 hlocks
  · intro j ih9 H locs k sl g hI
    obtain ⟨i, zi, ix1, lf1, an1, gs1, acc, o1, F1, ls, hp0, hp1, hp2, hp3, hp4, hp5, hp6, hp7, hp8, hp9, hp10, hp11, rfl, rfl, hP, hS, hl, rfl⟩ := hI
    have q0 := hp2.2.1.2.2 n hn
    have q1 := q0.2.2.2.1
    obtain ⟨n1, n2, n3, n4, n5, n6, n7, n8⟩ := hp2.1.2.1
    have ni : i < tr 2 n := by omega
    refine lv_iload_n hx hb dX8_typeOfRecord_2 rfl (lv_at hl 0 rfl) ?_
    refine lv_aload_n hx hb dX8_typeOfRecord_3 rfl (lv_at hl 1 rfl) ?_
    refine m_get (v := .ref (md G 3)) hx hb htu wu_in hown hK hP 3 (by decide) (htu _ U_4) rfl rfl dX8_typeOfRecord_4 ?_
    refine lv_iload_n hx hb dX8_typeOfRecord_7 rfl (lv_at hl 2 rfl) ?_
    refine m_ald (j := n) (v := nI (tr 2 n)) hx hb hK hP 3 3 rfl (by omega) (by decide) q1 dX8_typeOfRecord_8 ?_
    refine lv_icmp_ge (tgt := 60) hx hb dX8_typeOfRecord_9 (by decide) (fun c_16 => absurd c_16 (nI_ge ni (by omega))) (fun c_16 => ?_)
    refine lv_aload_n hx hb dX8_typeOfRecord_12 rfl (lv_at hl 1 rfl) ?_
    refine m_get (v := .int (sc (sto zi))) hx hb htu wu_in hown hK hP 27 (by decide) (htu _ U_45) rfl (m_v hp2.1.1.2.2.2.2.1) dX8_typeOfRecord_13 ?_
    refine lv_if_ne (tgt := 60) hx hb dX8_typeOfRecord_16 (by decide) (fun c_17 => ?_) (fun c_17 => ?_)
    · skip
      refine lv_aload_n hx hb dX8_typeOfRecord_60 rfl (lv_at hl 1 rfl) ?_
      refine m_get (v := .int (sc (sto zi))) hx hb htu wu_in hown hK hP 27 (by decide) (htu _ U_45) rfl (m_v hp2.1.1.2.2.2.2.1) dX8_typeOfRecord_61 ?_
      refine lv_if_eq (tgt := 70) hx hb dX8_typeOfRecord_64 (by decide) (fun c_18 => absurd c_18 c_17) (fun c_18 => ?_)
      refine lv_bipush (v := (-9)) hx hb dX8_typeOfRecord_67 (by decide) ?_
      have hs9 : sto zi ≠ 0 := (fun h => c_17 (sc_0.mpr h))
      have e9 : (cpL (fun s x => ty tr top fu s x lv) z (pLs tr n)).1 = zi := hp1.stop hs9
      exact m_iret (v := (-9)) hx hb hr hK hP hS (by rw [ce, e9, if_pos hs9]; exact ⟨⟨ix1, lf1, an1, gs1, hp2, hp3, by have := csum_le (tr := tr) (k := fu) (n := n) (show i ≤ tr 2 n by omega); omega, hp6, ⟨fun h => absurd h hs9, fun h hl hq => by have h8 := (nI_eq (by omega) hl).mp (hh.symm.trans hq); subst h8; obtain ⟨h9, g1, g2, g3⟩ := hp10; exact ⟨h9, g1, g2, by omega, hp11⟩, fun h => absurd h0 h⟩, hp7, hp8, hp4, fun _ => h0⟩, fun h => absurd h hs9⟩) dX8_typeOfRecord_69 hlocks
    · skip
      have g0 : sto zi = 0 := sc_0.mp c_17
      obtain ⟨k1, k2⟩ := hp9 g0
      obtain ⟨p13, p14, p15⟩ := q0.2.2.2.2.2.2.1 i (by rw [pe]; exact ni)
      have hst := hp1.step (by rw [pLs_len]; exact ni) g0
      rw [pLs_at ni] at hst
      have hbi : bnd (ty tr top fu zi (tr (10 + i) n) lv).1 ≤ 200000 := by refine Nat.le_trans ?_ hbL; rw [hst.1]; exact b_cpL (fun s x => b_ty tr top fu s x lv) _ _
      have cs := csum_s (tr := tr) (k := fu) (n := n) (i := i)
      have cl9 := csum_le (tr := tr) (k := fu) (n := n) (show i + 1 ≤ tr 2 n by omega)
      refine lv_aload_n hx hb dX8_typeOfRecord_19 rfl (lv_at hl 1 rfl) ?_
      refine m_get (v := .ref (md G 38)) hx hb htu wu_in hown hK hP 38 (by decide) (htu _ U_75) rfl rfl dX8_typeOfRecord_20 ?_
      refine lv_aload_n hx hb dX8_typeOfRecord_23 rfl (lv_at hl 1 rfl) ?_
      refine m_get (v := .int (nI (hm + i))) hx hb htu wu_in hown hK hP 39 (by decide) (htu _ U_57) rfl (m_v k1) dX8_typeOfRecord_24 ?_
      refine lv_aload_n hx hb dX8_typeOfRecord_27 rfl (lv_at hl 1 rfl) ?_
      refine lv_aload_n hx hb dX8_typeOfRecord_28 rfl (lv_at hl 1 rfl) ?_
      refine m_get (v := .ref (md G 4)) hx hb htu wu_in hown hK hP 4 (by decide) (htu _ U_6) rfl rfl dX8_typeOfRecord_29 ?_
      refine lv_bipush (v := 6) hx hb dX8_typeOfRecord_32 (by decide) ?_
      refine lv_iload_n hx hb dX8_typeOfRecord_34 rfl (lv_at hl 2 rfl) ?_
      refine lv_imul hx hb dX8_typeOfRecord_35 ?_
      refine m_top (y := nI (6 * n)) (pk_mul 6 n) ?_
      refine lv_iload_n hx hb dX8_typeOfRecord_36 rfl (lv_at hl 0 rfl) ?_
      refine lv_iadd hx hb dX8_typeOfRecord_37 ?_
      refine m_top (y := nI (6 * n + i)) (nI_add (6 * n) i) ?_
      refine m_ald (j := 6 * n + i) (v := nI (tr (10 + i) n)) hx hb hK hP 4 4 rfl (by omega) (by decide) p13 dX8_typeOfRecord_38 ?_
      refine lv_iload_n hx hb dX8_typeOfRecord_39 rfl (lv_at hl 3 rfl) ?_
      refine m_ci (m_runV (As := [.int (nI (tr (10 + i) n)), .int (nI lv)]) (rest := [.int (nI (hm + i)), .ref (md G 38)]) ⟨hx, hb, hml, hown, htu⟩ (ih l G hDD o1 F1 tr N top gs1 zi ix1 lf1 an1 (tr (10 + i) n) lv (hm + i) (d + 1) hp2 p14 htp ((hup.up p15)) ((Cv.part hC p15 (fun q h => hp6 q h) (fun h => absurd h (ncov (by omega) (by omega) (by omega))))) ((by omega)) ((by omega)) k1 ((by omega)) hbi ((by omega)) ((fun _ => by omega)) ((hp7.trans hd)) ((by omega)) H.size) (cwV 2 htu gU_X8_typing rfl rfl rfl (by decide +kernel) ⟨show (3 * fu + 320) + 1 ≤ 3 * fu + 321 by omega, show 8 + (4 + 11) + (80 * fu + 9100) ≤ 80 * fu + 9123 by omega⟩) hP hK rfl hl.1 rfl (lv_room (Nat.le_of_ble_eq_true rfl)) dX8_typeOfRecord_40) hS (fun r_19 o_20 F_21 H locs hw_22 hP hS => ?_)
      try dsimp only at hw_22
      obtain ⟨⟨ix2, lf2, an2, gs2, X⟩, hv2⟩ := hw_22
      obtain ⟨a1, a2, -⟩ := X.2.2.2.2.1
      obtain ⟨hx9, hh9, a3, a4, a5⟩ := a2 (hm + i) (by omega) k1
      generalize ty tr top fu zi (tr (10 + i) n) lv = Z1 at hst X hv2 a1
      have x9 := X.2.2.2.2.2.2.2.1
      have xa9 := X.2.2.1
      refine m_ast (j := hm + i) (x := r_19) hx hb hK hP hDD hS 23 38 rfl (by omega) (by decide) (mW_a38 _ _ _ _ _) dX8_typeOfRecord_43 (fun H locs hP hS => ?_)
      refine lv_aload_n hx hb dX8_typeOfRecord_44 rfl (lv_at hl 1 rfl) ?_
      refine lv_dup hx hb dX8_typeOfRecord_45 rfl ?_
      refine m_get (v := .int (nI hx9)) hx hb htu wu_in hown hK hP 39 (by decide) (htu _ U_57) rfl (m_v hh9) dX8_typeOfRecord_46 ?_
      refine lv_iconst (v := 1) hx hb dX8_typeOfRecord_49 (by decide) ?_
      refine lv_iadd hx hb dX8_typeOfRecord_50 ?_
      refine m_top (y := nI (hx9 + 1)) (nI_add hx9 1) ?_
      refine m_put (ty := .int) (x := nI (hx9 + 1)) hx hb htu wu_in hown hK hP hDD hS 39 (by decide) (htu _ U_57) rfl rfl (by decide +kernel) rfl rfl (mO_s39 _ _ _) dX8_typeOfRecord_51 (fun H locs hP hS => ?_)
      refine lv_iinc (v := nI (i + 1)) (lv' := [(3, .int (nI (i + 1))), (0, .ref (mh G)), (1, .int (nI n)), (2, .int (nI lv))]) hx hb dX8_typeOfRecord_54 hl (k := 0) rfl (nI_1 i) (by decide) rfl (fun ls hl => ?_)
      refine lv_goto (tgt := 2) hx hb dX8_typeOfRecord_57 (by decide) ?_
      have e9 : sto Z1.1 = 0 → nI (hx9 + 1) = nI (hm + (i + 1)) := fun hz => by have := (a1 hz).symm.trans hh9; rw [k1] at this; have := (nI_eq (by omega) (by omega)).mp this; exact congrArg nI (by omega)
      have g9 : sto Z1.1 = 0 → ∀ q, q < i + 1 → fput F_21 38 (hm + i) r_19 38 (hm + q) = nI ((acc ++ [Z1.2]).getD q 0) ∧ (acc ++ [Z1.2]).getD q 0 < nT Z1.1 := fun hz q hq => by
        rcases Nat.lt_or_ge q i with h9 | h9
        · rw [gtL (by rw [hp1.2.2]; exact h9), fput_j (by omega)]; exact ⟨(a5 _ (by omega)).trans (k2 q h9).1, Nat.lt_of_lt_of_le (k2 q h9).2 x9.1⟩
        · obtain rfl : q = i := by omega
          rw [gtR hp1.2.2.symm, fput_s]; exact hv2 hz
      exact ih9 _ _ _ _ _ ⟨i + 1, Z1.1, ix2, lf2, an2, gs2, (acc ++ [Z1.2]), upd o_20 39 (nI (hx9 + 1)), fput F_21 38 (hm + i) r_19, ls, by omega, hst, X.1, (Px.tr hR hp3 hp4 X.2.1), (hp4.tr x9), (by omega), (fun q h => X.2.2.2.1 q (hp6 q h)), (X.2.2.2.2.2.1.trans hp7), (Kq.F (Kq.o (Kq.tr hp8 X.2.2.2.2.2.2.1) (by decide)) (by decide)), (fun hz => ⟨e9 hz, fun q hq => g9 hz q hq⟩), ⟨hx9 + 1, rfl, by omega, by omega⟩, (fun q hq => by rw [fput_j (by omega)]; exact (a5 q (by omega)).trans (hp11 q hq)), rfl, rfl, hP, hS, lv_sub hl [0, 1, 2, 3] rfl, rfl⟩

