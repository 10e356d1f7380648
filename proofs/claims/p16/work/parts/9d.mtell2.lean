theorem dX8_outNumber_0 : decode cX8_outNumber 0 = .ok (.iload_n 1, 1) := by decide +kernel
theorem dX8_outNumber_1 : decode cX8_outNumber 1 = .ok (.ifCond .ge 9, 3) := by decide +kernel
theorem dX8_outNumber_10 : decode cX8_outNumber 10 = .ok (.iload_n 1, 1) := by decide +kernel
theorem dX8_outNumber_11 : decode cX8_outNumber 11 = .ok (.i2l, 1) := by decide +kernel
theorem dX8_outNumber_12 : decode cX8_outNumber 12 = .ok (.lstore_n 2, 1) := by decide +kernel
theorem dX8_outNumber_13 : decode cX8_outNumber 13 = .ok (.iload_n 1, 1) := by decide +kernel
theorem dX8_outNumber_14 : decode cX8_outNumber 14 = .ok (.ifCond .ge 9, 3) := by decide +kernel
theorem dX8_outNumber_23 : decode cX8_outNumber 23 = .ok (.iconst 0, 1) := by decide +kernel
theorem dX8_outNumber_24 : decode cX8_outNumber 24 = .ok (.istore 4, 2) := by decide +kernel
theorem dX8_outNumber_26 : decode cX8_outNumber 26 = .ok (.aload_n 0, 1) := by decide +kernel
theorem dX8_outNumber_27 : decode cX8_outNumber 27 = .ok (.getfield 100, 3) := by decide +kernel
theorem dX8_outNumber_30 : decode cX8_outNumber 30 = .ok (.iload 4, 2) := by decide +kernel
theorem dX8_outNumber_32 : decode cX8_outNumber 32 = .ok (.lload_n 2, 1) := by decide +kernel
theorem dX8_outNumber_33 : decode cX8_outNumber 33 = .ok (.ldc2_w 308, 3) := by decide +kernel
theorem dX8_outNumber_36 : decode cX8_outNumber 36 = .ok (.lrem, 1) := by decide +kernel
theorem dX8_outNumber_37 : decode cX8_outNumber 37 = .ok (.l2i, 1) := by decide +kernel
theorem dX8_outNumber_38 : decode cX8_outNumber 38 = .ok (.iastore, 1) := by decide +kernel
theorem dX8_outNumber_39 : decode cX8_outNumber 39 = .ok (.iinc 4 1, 3) := by decide +kernel
theorem dX8_outNumber_42 : decode cX8_outNumber 42 = .ok (.lload_n 2, 1) := by decide +kernel
theorem dX8_outNumber_43 : decode cX8_outNumber 43 = .ok (.ldc2_w 308, 3) := by decide +kernel
theorem dX8_outNumber_46 : decode cX8_outNumber 46 = .ok (.ldiv, 1) := by decide +kernel
theorem dX8_outNumber_47 : decode cX8_outNumber 47 = .ok (.lstore_n 2, 1) := by decide +kernel
theorem dX8_outNumber_48 : decode cX8_outNumber 48 = .ok (.lload_n 2, 1) := by decide +kernel
theorem dX8_outNumber_49 : decode cX8_outNumber 49 = .ok (.lconst 0, 1) := by decide +kernel
theorem dX8_outNumber_50 : decode cX8_outNumber 50 = .ok (.lcmp, 1) := by decide +kernel
theorem dX8_outNumber_51 : decode cX8_outNumber 51 = .ok (.ifCond .gt (-25), 3) := by decide +kernel
theorem dX8_outNumber_54 : decode cX8_outNumber 54 = .ok (.iload 4, 2) := by decide +kernel
theorem dX8_outNumber_56 : decode cX8_outNumber 56 = .ok (.iconst 1, 1) := by decide +kernel
theorem dX8_outNumber_57 : decode cX8_outNumber 57 = .ok (.isub, 1) := by decide +kernel
theorem dX8_outNumber_58 : decode cX8_outNumber 58 = .ok (.istore 5, 2) := by decide +kernel
theorem dX8_outNumber_60 : decode cX8_outNumber 60 = .ok (.iload 5, 2) := by decide +kernel
theorem dX8_outNumber_62 : decode cX8_outNumber 62 = .ok (.ifCond .lt 23, 3) := by decide +kernel
theorem dX8_outNumber_85 : decode cX8_outNumber 85 = .ok (.return_, 1) := by decide +kernel
theorem dX8_outNumber_65 : decode cX8_outNumber 65 = .ok (.aload_n 0, 1) := by decide +kernel
theorem dX8_outNumber_66 : decode cX8_outNumber 66 = .ok (.bipush 48, 2) := by decide +kernel
theorem dX8_outNumber_68 : decode cX8_outNumber 68 = .ok (.aload_n 0, 1) := by decide +kernel
theorem dX8_outNumber_69 : decode cX8_outNumber 69 = .ok (.getfield 100, 3) := by decide +kernel
theorem dX8_outNumber_72 : decode cX8_outNumber 72 = .ok (.iload 5, 2) := by decide +kernel
theorem dX8_outNumber_74 : decode cX8_outNumber 74 = .ok (.iaload, 1) := by decide +kernel
theorem dX8_outNumber_75 : decode cX8_outNumber 75 = .ok (.iadd, 1) := by decide +kernel
theorem dX8_outNumber_76 : decode cX8_outNumber 76 = .ok (.invokevirtual 304, 3) := by decide +kernel
theorem dX8_outNumber_79 : decode cX8_outNumber 79 = .ok (.iinc 5 (-1), 3) := by decide +kernel
theorem dX8_outNumber_82 : decode cX8_outNumber 82 = .ok (.goto (-22), 3) := by decide +kernel
theorem dX8_outNumber_4 : decode cX8_outNumber 4 = .ok (.iload_n 1, 1) := by decide +kernel
theorem dX8_outNumber_5 : decode cX8_outNumber 5 = .ok (.i2l, 1) := by decide +kernel
theorem dX8_outNumber_6 : decode cX8_outNumber 6 = .ok (.lneg, 1) := by decide +kernel
theorem dX8_outNumber_7 : decode cX8_outNumber 7 = .ok (.goto 5, 3) := by decide +kernel
theorem dX8_outNumber_17 : decode cX8_outNumber 17 = .ok (.aload_n 0, 1) := by decide +kernel
theorem dX8_outNumber_18 : decode cX8_outNumber 18 = .ok (.bipush 45, 2) := by decide +kernel
theorem dX8_outNumber_20 : decode cX8_outNumber 20 = .ok (.invokevirtual 304, 3) := by decide +kernel
set_option maxHeartbeats 4000000 in
set_option maxRecDepth 100000 in
/-- outNumber -/
theorem m_outNumber (l : Launch) (G : mG) (hDD : mDD G) (o : Nat → Int32) (F : Nat → Nat → Int32) (bm : Nat) (mo : Nat) (x : Int32) (h47 : o 47 = nI bm) (h48 : o 48 = nI mo) (hmo : mo ≤ 400) (hbm : bm ≤ mo) (sz : Nat) : Met l yX8_outNumber (wU yX8_outNumber cX8_outNumber 6 none) { frames := 1, cells := 0, slots := 0, locals := 21 } (mPc G o F sz [.ref (mh G), .int x]) (mQv G sz (fun u => TL mo bm o F u)) 0 0 (mA G sz) := by
  refine Met.ofW (cc := cX8_outNumber) (maxL := 6) (ret := none) (by decide) rfl ?_
  intro p e s m args below meth c s₁ B hml hv
  obtain ⟨rfl, hsz, hP, hK⟩ := hv
  have hx := B.exec
  have hb := B.bytes
  have hr := B.returns
  have htu : ∀ w ∈ WU, w.before _ s = true := fun w h => atoms_spec (ws := (wU yX8_outNumber cX8_outNumber 6 none)) B.pre w (List.mem_cons_of_mem _ h)
  have hown : s.vm.findClass RX8 = some m.cls := findClass_of_methodNamed B.named
  have hlocks := B.notSynchronized
  subst hsz
  have hS : va_S (mA G s.heap.size) s.heap s.heap [] := va_S.rf
  have hl := lv_entry ([.ref (mh G), .int x]) (n := 6) (Nat.le_of_ble_eq_true rfl)
  rw [lg_entry_eq]
  generalize (lg_sl ([.ref (mh G), .int x]) ++ List.replicate (6 - (lg_sl ([.ref (mh G), .int x])).length) Slot.unset).toArray = ls at hl ⊢
  have hl : lv_has ls 6 [(0, .ref (mh G)), (1, .int x)] := hl
  obtain ⟨H, hHe⟩ : ∃ H : Heap, H = s.heap := ⟨_, rfl⟩
  rw [← hHe] at hP
  have hS : va_S (mA G s.heap.size) s.heap H [] := by rw [hHe]; exact va_S.rf
  refine W.heq hHe ?_
  refine lv_iload_n hx hb dX8_outNumber_0 rfl (lv_at hl 1 rfl) ?_
  refine lv_if_ge (tgt := 10) hx hb dX8_outNumber_1 (by decide) (fun c_1 => ?_) (fun c_1 => ?_)
  · skip
    refine lv_iload_n hx hb dX8_outNumber_10 rfl (lv_at hl 1 rfl) ?_
    refine lv_i2l hx hb dX8_outNumber_11 (v := _) rfl ?_
    refine lv_topl (fun f_2 ef_2 => ?_)
    refine lv_lstore_n (lv' := [(2, .long f_2), (0, .ref (mh G)), (1, .int x)]) hx hb dX8_outNumber_12 rfl hl (by decide) rfl (fun ls hl => ?_)
    refine lv_iload_n hx hb dX8_outNumber_13 rfl (lv_at hl 2 rfl) ?_
    refine lv_if_ge (tgt := 23) hx hb dX8_outNumber_14 (by decide) (fun c_3 => ?_) (fun c_3 => absurd c_1 c_3)
    refine lv_iconst (v := 0) hx hb dX8_outNumber_23 (by decide) ?_
    refine lv_istore (lv' := [(4, .int 0), (2, .long f_2), (0, .ref (mh G)), (1, .int x)]) hx hb dX8_outNumber_24 hl (by decide) rfl (fun ls hl => ?_)
    refine w_loop (fun j H locs k sl g => ∃ (o1 : Nat → Int32) (F1 : Nat → Nat → Int32) (bm1 : Nat) (L : Int64) (n : Nat) (ls : Array Slot), n + j = 9 ∧ o1 47 = nI bm1 ∧ bm ≤ bm1 ∧ bm1 ≤ mo ∧ Kq LTl o F (o1, F1) ∧ 0 ≤ L.toInt ∧ L.toInt < 10 ^ (j + 1) ∧ k = 0 ∧ sl = 0 ∧ mP G o1 F1 H ∧ va_S (mA G s.heap.size) s.heap H locs ∧ lv_has ls 6 [(0, .ref (mh G)), (1, .int x), (2, .long L), (4, .int (nI n))] ∧ g = F0 m 26 ls []) ?_ ?_ 9 _ _ _ _ _ ⟨o, F, bm, f_2, 0, ls, by omega, h47, Nat.le_refl _, hbm, Kq.rf, (by rw [ef_2]; exact (l10_p x (Int32.not_lt.mpr c_1)).1), (by rw [ef_2]; exact (l10_p x (Int32.not_lt.mpr c_1)).2), rfl, rfl, hP, hS, lv_sub hl [2, 3, 1, 0] rfl, rfl⟩
    · intro H locs k sl g hI
      obtain ⟨o1, F1, bm1, L, n, ls, hp0, hp1, hp2, hp3, hp4, hp5, hp6, rfl, rfl, hP, hS, hl, rfl⟩ := hI
      have h48b : o1 48 = nI mo := (hp4 48 (by decide)).1.trans h48
      have hn9 : n ≤ 9 := by omega
      refine lv_aload_n hx hb dX8_outNumber_26 rfl (lv_at hl 0 rfl) ?_
      refine m_get (v := .ref (md G 50)) hx hb htu wu_in hown hK hP 50 (by decide) (htu _ U_207) rfl rfl dX8_outNumber_27 ?_
      refine lv_iload hx hb dX8_outNumber_30 (lv_at hl 3 rfl) ?_
      refine lv_lload_n hx hb dX8_outNumber_32 rfl (lv_at hl 2 rfl) ?_
      refine lv_ldc2 (v := 10) hx hb hown (htu _ U_208) dX8_outNumber_33 ?_
      refine lv_lrem hx hb dX8_outNumber_36 (by decide) ?_
      refine lv_topl (fun f_4 ef_4 => ?_)
      refine lv_l2i hx hb dX8_outNumber_37 (v := _) rfl ?_
      refine lv_topi (fun f_5 ef_5 => ?_)
      refine m_ast (j := n) (x := f_5) hx hb hK hP hDD hS 30 50 rfl (by omega) (by decide) (mW_a50 _ _ _ _ _) dX8_outNumber_38 (fun H locs hP hS => ?_)
      refine lv_iinc (v := nI (n + 1)) (lv' := [(4, .int (nI (n + 1))), (0, .ref (mh G)), (1, .int x), (2, .long L)]) hx hb dX8_outNumber_39 hl (k := 3) rfl (nI_1 n) (by decide) rfl (fun ls hl => ?_)
      refine lv_lload_n hx hb dX8_outNumber_42 rfl (lv_at hl 3 rfl) ?_
      refine lv_ldc2 (v := 10) hx hb hown (htu _ U_208) dX8_outNumber_43 ?_
      refine lv_ldiv hx hb dX8_outNumber_46 (by decide) ?_
      refine lv_topl (fun f_6 ef_6 => ?_)
      refine lv_lstore_n (lv' := [(2, .long f_6), (4, .int (nI (n + 1))), (0, .ref (mh G)), (1, .int x)]) hx hb dX8_outNumber_47 rfl hl (by decide) rfl (fun ls hl => ?_)
      refine lv_lload_n hx hb dX8_outNumber_48 rfl (lv_at hl 0 rfl) ?_
      refine lv_lconst (v := 0) hx hb dX8_outNumber_49 (by decide) ?_
      refine W.lcmp hx hb dX8_outNumber_50 ?_
      refine lv_topi (fun f_7 ef_7 => ?_)
      refine lv_if_gt (tgt := 26) hx hb dX8_outNumber_51 (by decide) (fun c_8 => absurd c_8 (fun h9 => by rw [ef_7] at h9; have h8 := lcmp_g.mp h9; rw [ef_6] at h8; have := (l10_d (n := 0) hp5 hp6).2; omega)) (fun c_8 => ?_)
      refine lv_iload hx hb dX8_outNumber_54 (lv_at hl 1 rfl) ?_
      refine lv_iconst (v := 1) hx hb dX8_outNumber_56 (by decide) ?_
      refine lv_isub hx hb dX8_outNumber_57 ?_
      refine m_top (y := (nI (n + 1)) - 1) rfl ?_
      refine lv_istore (lv' := [(5, .int ((nI (n + 1)) - 1)), (2, .long f_6), (4, .int (nI (n + 1))), (0, .ref (mh G)), (1, .int x)]) hx hb dX8_outNumber_58 hl (by decide) rfl (fun ls hl => ?_)
      refine w_loop (fun j H locs k sl g => ∃ (o2 : Nat → Int32) (F2 : Nat → Nat → Int32) (bm2 : Nat) (yv : Int32) (ls : Array Slot), yv = nI j - 1 ∧ o2 47 = nI bm2 ∧ bm ≤ bm2 ∧ bm2 ≤ mo ∧ Kq LTl o F (o2, F2) ∧ j ≤ 10 ∧ k = 0 ∧ sl = 0 ∧ mP G o2 F2 H ∧ va_S (mA G s.heap.size) s.heap H locs ∧ lv_has ls 6 [(0, .ref (mh G)), (1, .int x), (2, .long f_6), (4, .int (nI (n + 1))), (5, .int yv)] ∧ g = F0 m 60 ls []) ?_ ?_ (n + 1) _ _ _ _ _ ⟨o1, fput F1 50 n f_5, bm1, (nI (n + 1) - 1), ls, rfl, hp1, hp2, hp3, (hp4.F (by decide)), (by omega), rfl, rfl, hP, hS, lv_sub hl [3, 4, 1, 2, 0] rfl, rfl⟩
      · intro H locs k sl g hI
        obtain ⟨o2, F2, bm2, yv, ls, hq0, hq1, hq2, hq3, hq4, hq5, rfl, rfl, hP, hS, hl, rfl⟩ := hI
        have hy : yv = -1 := hq0
        have h48c : o2 48 = nI mo := (hq4 48 (by decide)).1.trans h48
        refine lv_iload hx hb dX8_outNumber_60 (lv_at hl 4 rfl) ?_
        refine lv_if_lt (tgt := 85) hx hb dX8_outNumber_62 (by decide) (fun c_9 => ?_) (fun c_9 => absurd (by rw [hy]; decide) c_9)
        exact m_vret hx hb hr hK hP hS ⟨bm2, hq2, hq3, hq1, hq4⟩ dX8_outNumber_85 hlocks
      · intro j ih9 H locs k sl g hI
        obtain ⟨o2, F2, bm2, yv, ls, hq0, hq1, hq2, hq3, hq4, hq5, rfl, rfl, hP, hS, hl, rfl⟩ := hI
        have hy : yv = nI j := hq0.trans (nI_pred j)
        subst hy
        have h48c : o2 48 = nI mo := (hq4 48 (by decide)).1.trans h48
        refine lv_iload hx hb dX8_outNumber_60 (lv_at hl 4 rfl) ?_
        refine lv_if_lt (tgt := 85) hx hb dX8_outNumber_62 (by decide) (fun c_10 => absurd c_10 (nI_n0 (by omega))) (fun c_10 => ?_)
        refine lv_aload_n hx hb dX8_outNumber_65 rfl (lv_at hl 0 rfl) ?_
        refine lv_bipush (v := 48) hx hb dX8_outNumber_66 (by decide) ?_
        refine lv_aload_n hx hb dX8_outNumber_68 rfl (lv_at hl 0 rfl) ?_
        refine m_get (v := .ref (md G 50)) hx hb htu wu_in hown hK hP 50 (by decide) (htu _ U_207) rfl rfl dX8_outNumber_69 ?_
        refine lv_iload hx hb dX8_outNumber_72 (lv_at hl 4 rfl) ?_
        refine m_ald (j := j) (v := F2 50 j) hx hb hK hP 30 50 rfl (by omega) (by decide) rfl dX8_outNumber_74 ?_
        refine lv_iadd hx hb dX8_outNumber_75 ?_
        refine m_top (y := 48 + (F2 50 j)) rfl ?_
        refine m_cv (m_runV (As := [.int (48 + (F2 50 j))]) (rest := []) ⟨hx, hb, hml, hown, htu⟩ (m_out l G hDD o2 F2 bm2 mo (48 + (F2 50 j)) hq1 h48c hmo hq3 H.size) (cwV 1 htu gU_X8_out rfl rfl rfl (by decide +kernel) ⟨Nat.le_of_ble_eq_true rfl, Nat.le_of_ble_eq_true rfl⟩) hP hK rfl hl.1 rfl (lv_room (Nat.le_of_ble_eq_true rfl)) dX8_outNumber_76) hS (fun o_12 F_13 H locs hw_14 hP hS => ?_)
        try dsimp only at hw_14
        obtain ⟨b_15, b_15a, b_15b, b_15c, b_15d, b_15e⟩ := TL.out hq1 hq3 hw_14
        refine lv_iinc (v := nI j - 1) (lv' := [(5, .int (nI j - 1)), (0, .ref (mh G)), (1, .int x), (2, .long f_6), (4, .int (nI (n + 1)))]) hx hb dX8_outNumber_79 hl (k := 4) rfl (by rw [Int32.sub_eq_add_neg]; rfl) (by decide) rfl (fun ls hl => ?_)
        refine lv_goto (tgt := 60) hx hb dX8_outNumber_82 (by decide) ?_
        exact ih9 _ _ _ _ _ ⟨o_12, F_13, b_15, (nI j - 1), ls, rfl, b_15d, (Nat.le_trans hq2 b_15a), b_15b, (hq4.tr b_15e), (by omega), rfl, rfl, hP, hS, lv_sub hl [1, 2, 3, 4, 0] rfl, rfl⟩
    · intro j ih9 H locs k sl g hI
      obtain ⟨o1, F1, bm1, L, n, ls, hp0, hp1, hp2, hp3, hp4, hp5, hp6, rfl, rfl, hP, hS, hl, rfl⟩ := hI
      have h48b : o1 48 = nI mo := (hp4 48 (by decide)).1.trans h48
      have hn9 : n ≤ 9 := by omega
      refine lv_aload_n hx hb dX8_outNumber_26 rfl (lv_at hl 0 rfl) ?_
      refine m_get (v := .ref (md G 50)) hx hb htu wu_in hown hK hP 50 (by decide) (htu _ U_207) rfl rfl dX8_outNumber_27 ?_
      refine lv_iload hx hb dX8_outNumber_30 (lv_at hl 3 rfl) ?_
      refine lv_lload_n hx hb dX8_outNumber_32 rfl (lv_at hl 2 rfl) ?_
      refine lv_ldc2 (v := 10) hx hb hown (htu _ U_208) dX8_outNumber_33 ?_
      refine lv_lrem hx hb dX8_outNumber_36 (by decide) ?_
      refine lv_topl (fun f_16 ef_16 => ?_)
      refine lv_l2i hx hb dX8_outNumber_37 (v := _) rfl ?_
      refine lv_topi (fun f_17 ef_17 => ?_)
      refine m_ast (j := n) (x := f_17) hx hb hK hP hDD hS 30 50 rfl (by omega) (by decide) (mW_a50 _ _ _ _ _) dX8_outNumber_38 (fun H locs hP hS => ?_)
      refine lv_iinc (v := nI (n + 1)) (lv' := [(4, .int (nI (n + 1))), (0, .ref (mh G)), (1, .int x), (2, .long L)]) hx hb dX8_outNumber_39 hl (k := 3) rfl (nI_1 n) (by decide) rfl (fun ls hl => ?_)
      refine lv_lload_n hx hb dX8_outNumber_42 rfl (lv_at hl 3 rfl) ?_
      refine lv_ldc2 (v := 10) hx hb hown (htu _ U_208) dX8_outNumber_43 ?_
      refine lv_ldiv hx hb dX8_outNumber_46 (by decide) ?_
      refine lv_topl (fun f_18 ef_18 => ?_)
      refine lv_lstore_n (lv' := [(2, .long f_18), (4, .int (nI (n + 1))), (0, .ref (mh G)), (1, .int x)]) hx hb dX8_outNumber_47 rfl hl (by decide) rfl (fun ls hl => ?_)
      refine lv_lload_n hx hb dX8_outNumber_48 rfl (lv_at hl 0 rfl) ?_
      refine lv_lconst (v := 0) hx hb dX8_outNumber_49 (by decide) ?_
      refine W.lcmp hx hb dX8_outNumber_50 ?_
      refine lv_topi (fun f_19 ef_19 => ?_)
      refine lv_if_gt (tgt := 26) hx hb dX8_outNumber_51 (by decide) (fun c_20 => ?_) (fun c_20 => ?_)
      · skip
        exact ih9 _ _ _ _ _ ⟨o1, (fput F1 50 n f_17), bm1, f_18, n + 1, ls, by omega, hp1, hp2, hp3, hp4.F (by decide), (by rw [ef_18]; exact (l10_d hp5 hp6).1), (by rw [ef_18]; exact (l10_d hp5 hp6).2), rfl, rfl, hP, hS, lv_sub hl [2, 3, 0, 1] rfl, rfl⟩
      · skip
        refine lv_iload hx hb dX8_outNumber_54 (lv_at hl 1 rfl) ?_
        refine lv_iconst (v := 1) hx hb dX8_outNumber_56 (by decide) ?_
        refine lv_isub hx hb dX8_outNumber_57 ?_
        refine m_top (y := (nI (n + 1)) - 1) rfl ?_
        refine lv_istore (lv' := [(5, .int ((nI (n + 1)) - 1)), (2, .long f_18), (4, .int (nI (n + 1))), (0, .ref (mh G)), (1, .int x)]) hx hb dX8_outNumber_58 hl (by decide) rfl (fun ls hl => ?_)
        refine w_loop (fun j H locs k sl g => ∃ (o2 : Nat → Int32) (F2 : Nat → Nat → Int32) (bm2 : Nat) (yv : Int32) (ls : Array Slot), yv = nI j - 1 ∧ o2 47 = nI bm2 ∧ bm ≤ bm2 ∧ bm2 ≤ mo ∧ Kq LTl o F (o2, F2) ∧ j ≤ 10 ∧ k = 0 ∧ sl = 0 ∧ mP G o2 F2 H ∧ va_S (mA G s.heap.size) s.heap H locs ∧ lv_has ls 6 [(0, .ref (mh G)), (1, .int x), (2, .long f_18), (4, .int (nI (n + 1))), (5, .int yv)] ∧ g = F0 m 60 ls []) ?_ ?_ (n + 1) _ _ _ _ _ ⟨o1, fput F1 50 n f_17, bm1, (nI (n + 1) - 1), ls, rfl, hp1, hp2, hp3, (hp4.F (by decide)), (by omega), rfl, rfl, hP, hS, lv_sub hl [3, 4, 1, 2, 0] rfl, rfl⟩
        · intro H locs k sl g hI
          obtain ⟨o2, F2, bm2, yv, ls, hq0, hq1, hq2, hq3, hq4, hq5, rfl, rfl, hP, hS, hl, rfl⟩ := hI
          have hy : yv = -1 := hq0
          have h48c : o2 48 = nI mo := (hq4 48 (by decide)).1.trans h48
          refine lv_iload hx hb dX8_outNumber_60 (lv_at hl 4 rfl) ?_
          refine lv_if_lt (tgt := 85) hx hb dX8_outNumber_62 (by decide) (fun c_21 => ?_) (fun c_21 => absurd (by rw [hy]; decide) c_21)
          exact m_vret hx hb hr hK hP hS ⟨bm2, hq2, hq3, hq1, hq4⟩ dX8_outNumber_85 hlocks
        · intro j ih9 H locs k sl g hI
          obtain ⟨o2, F2, bm2, yv, ls, hq0, hq1, hq2, hq3, hq4, hq5, rfl, rfl, hP, hS, hl, rfl⟩ := hI
          have hy : yv = nI j := hq0.trans (nI_pred j)
          subst hy
          have h48c : o2 48 = nI mo := (hq4 48 (by decide)).1.trans h48
          refine lv_iload hx hb dX8_outNumber_60 (lv_at hl 4 rfl) ?_
          refine lv_if_lt (tgt := 85) hx hb dX8_outNumber_62 (by decide) (fun c_22 => absurd c_22 (nI_n0 (by omega))) (fun c_22 => ?_)
          refine lv_aload_n hx hb dX8_outNumber_65 rfl (lv_at hl 0 rfl) ?_
          refine lv_bipush (v := 48) hx hb dX8_outNumber_66 (by decide) ?_
          refine lv_aload_n hx hb dX8_outNumber_68 rfl (lv_at hl 0 rfl) ?_
          refine m_get (v := .ref (md G 50)) hx hb htu wu_in hown hK hP 50 (by decide) (htu _ U_207) rfl rfl dX8_outNumber_69 ?_
          refine lv_iload hx hb dX8_outNumber_72 (lv_at hl 4 rfl) ?_
          refine m_ald (j := j) (v := F2 50 j) hx hb hK hP 30 50 rfl (by omega) (by decide) rfl dX8_outNumber_74 ?_
          refine lv_iadd hx hb dX8_outNumber_75 ?_
          refine m_top (y := 48 + (F2 50 j)) rfl ?_
          refine m_cv (m_runV (As := [.int (48 + (F2 50 j))]) (rest := []) ⟨hx, hb, hml, hown, htu⟩ (m_out l G hDD o2 F2 bm2 mo (48 + (F2 50 j)) hq1 h48c hmo hq3 H.size) (cwV 1 htu gU_X8_out rfl rfl rfl (by decide +kernel) ⟨Nat.le_of_ble_eq_true rfl, Nat.le_of_ble_eq_true rfl⟩) hP hK rfl hl.1 rfl (lv_room (Nat.le_of_ble_eq_true rfl)) dX8_outNumber_76) hS (fun o_24 F_25 H locs hw_26 hP hS => ?_)
          try dsimp only at hw_26
          obtain ⟨b_27, b_27a, b_27b, b_27c, b_27d, b_27e⟩ := TL.out hq1 hq3 hw_26
          refine lv_iinc (v := nI j - 1) (lv' := [(5, .int (nI j - 1)), (0, .ref (mh G)), (1, .int x), (2, .long f_18), (4, .int (nI (n + 1)))]) hx hb dX8_outNumber_79 hl (k := 4) rfl (by rw [Int32.sub_eq_add_neg]; rfl) (by decide) rfl (fun ls hl => ?_)
          refine lv_goto (tgt := 60) hx hb dX8_outNumber_82 (by decide) ?_
          exact ih9 _ _ _ _ _ ⟨o_24, F_25, b_27, (nI j - 1), ls, rfl, b_27d, (Nat.le_trans hq2 b_27a), b_27b, (hq4.tr b_27e), (by omega), rfl, rfl, hP, hS, lv_sub hl [1, 2, 3, 4, 0] rfl, rfl⟩
  · skip
    refine lv_iload_n hx hb dX8_outNumber_4 rfl (lv_at hl 1 rfl) ?_
    refine lv_i2l hx hb dX8_outNumber_5 (v := _) rfl ?_
    refine lv_topl (fun f_28 ef_28 => ?_)
    refine lv_lneg hx hb dX8_outNumber_6 ?_
    refine lv_topl (fun f_29 ef_29 => ?_)
    refine lv_goto (tgt := 12) hx hb dX8_outNumber_7 (by decide) ?_
    refine lv_lstore_n (lv' := [(2, .long f_29), (0, .ref (mh G)), (1, .int x)]) hx hb dX8_outNumber_12 rfl hl (by decide) rfl (fun ls hl => ?_)
    refine lv_iload_n hx hb dX8_outNumber_13 rfl (lv_at hl 2 rfl) ?_
    refine lv_if_ge (tgt := 23) hx hb dX8_outNumber_14 (by decide) (fun c_30 => absurd c_30 c_1) (fun c_30 => ?_)
    refine lv_aload_n hx hb dX8_outNumber_17 rfl (lv_at hl 1 rfl) ?_
    refine lv_bipush (v := 45) hx hb dX8_outNumber_18 (by decide) ?_
    refine m_cv (m_runV (As := [.int 45]) (rest := []) ⟨hx, hb, hml, hown, htu⟩ (m_out l G hDD o F bm mo 45 h47 h48 hmo hbm H.size) (cwV 1 htu gU_X8_out rfl rfl rfl (by decide +kernel) ⟨Nat.le_of_ble_eq_true rfl, Nat.le_of_ble_eq_true rfl⟩) hP hK rfl hl.1 rfl (lv_room (Nat.le_of_ble_eq_true rfl)) dX8_outNumber_20) hS (fun o_32 F_33 H locs hw_34 hP hS => ?_)
    try dsimp only at hw_34
    obtain ⟨b_35, b_35a, b_35b, b_35c, b_35d, b_35e⟩ := TL.out h47 hbm hw_34
    refine lv_iconst (v := 0) hx hb dX8_outNumber_23 (by decide) ?_
    refine lv_istore (lv' := [(4, .int 0), (2, .long f_29), (0, .ref (mh G)), (1, .int x)]) hx hb dX8_outNumber_24 hl (by decide) rfl (fun ls hl => ?_)
    refine w_loop (fun j H locs k sl g => ∃ (o1 : Nat → Int32) (F1 : Nat → Nat → Int32) (bm1 : Nat) (L : Int64) (n : Nat) (ls : Array Slot), n + j = 9 ∧ o1 47 = nI bm1 ∧ bm ≤ bm1 ∧ bm1 ≤ mo ∧ Kq LTl o F (o1, F1) ∧ 0 ≤ L.toInt ∧ L.toInt < 10 ^ (j + 1) ∧ k = 0 ∧ sl = 0 ∧ mP G o1 F1 H ∧ va_S (mA G s.heap.size) s.heap H locs ∧ lv_has ls 6 [(0, .ref (mh G)), (1, .int x), (2, .long L), (4, .int (nI n))] ∧ g = F0 m 26 ls []) ?_ ?_ 9 _ _ _ _ _ ⟨o_32, F_33, b_35, f_29, 0, ls, by omega, b_35d, b_35a, b_35b, b_35e, (by rw [ef_29, ef_28]; exact (l10_n x (Int32.not_le.mp c_1)).1), (by rw [ef_29, ef_28]; exact (l10_n x (Int32.not_le.mp c_1)).2), rfl, rfl, hP, hS, lv_sub hl [2, 3, 1, 0] rfl, rfl⟩
    · intro H locs k sl g hI
      obtain ⟨o1, F1, bm1, L, n, ls, hp0, hp1, hp2, hp3, hp4, hp5, hp6, rfl, rfl, hP, hS, hl, rfl⟩ := hI
      have h48b : o1 48 = nI mo := (hp4 48 (by decide)).1.trans h48
      have hn9 : n ≤ 9 := by omega
      refine lv_aload_n hx hb dX8_outNumber_26 rfl (lv_at hl 0 rfl) ?_
      refine m_get (v := .ref (md G 50)) hx hb htu wu_in hown hK hP 50 (by decide) (htu _ U_207) rfl rfl dX8_outNumber_27 ?_
      refine lv_iload hx hb dX8_outNumber_30 (lv_at hl 3 rfl) ?_
      refine lv_lload_n hx hb dX8_outNumber_32 rfl (lv_at hl 2 rfl) ?_
      refine lv_ldc2 (v := 10) hx hb hown (htu _ U_208) dX8_outNumber_33 ?_
      refine lv_lrem hx hb dX8_outNumber_36 (by decide) ?_
      refine lv_topl (fun f_36 ef_36 => ?_)
      refine lv_l2i hx hb dX8_outNumber_37 (v := _) rfl ?_
      refine lv_topi (fun f_37 ef_37 => ?_)
      refine m_ast (j := n) (x := f_37) hx hb hK hP hDD hS 30 50 rfl (by omega) (by decide) (mW_a50 _ _ _ _ _) dX8_outNumber_38 (fun H locs hP hS => ?_)
      refine lv_iinc (v := nI (n + 1)) (lv' := [(4, .int (nI (n + 1))), (0, .ref (mh G)), (1, .int x), (2, .long L)]) hx hb dX8_outNumber_39 hl (k := 3) rfl (nI_1 n) (by decide) rfl (fun ls hl => ?_)
      refine lv_lload_n hx hb dX8_outNumber_42 rfl (lv_at hl 3 rfl) ?_
      refine lv_ldc2 (v := 10) hx hb hown (htu _ U_208) dX8_outNumber_43 ?_
      refine lv_ldiv hx hb dX8_outNumber_46 (by decide) ?_
      refine lv_topl (fun f_38 ef_38 => ?_)
      refine lv_lstore_n (lv' := [(2, .long f_38), (4, .int (nI (n + 1))), (0, .ref (mh G)), (1, .int x)]) hx hb dX8_outNumber_47 rfl hl (by decide) rfl (fun ls hl => ?_)
      refine lv_lload_n hx hb dX8_outNumber_48 rfl (lv_at hl 0 rfl) ?_
      refine lv_lconst (v := 0) hx hb dX8_outNumber_49 (by decide) ?_
      refine W.lcmp hx hb dX8_outNumber_50 ?_
      refine lv_topi (fun f_39 ef_39 => ?_)
      refine lv_if_gt (tgt := 26) hx hb dX8_outNumber_51 (by decide) (fun c_40 => absurd c_40 (fun h9 => by rw [ef_39] at h9; have h8 := lcmp_g.mp h9; rw [ef_38] at h8; have := (l10_d (n := 0) hp5 hp6).2; omega)) (fun c_40 => ?_)
      refine lv_iload hx hb dX8_outNumber_54 (lv_at hl 1 rfl) ?_
      refine lv_iconst (v := 1) hx hb dX8_outNumber_56 (by decide) ?_
      refine lv_isub hx hb dX8_outNumber_57 ?_
      refine m_top (y := (nI (n + 1)) - 1) rfl ?_
      refine lv_istore (lv' := [(5, .int ((nI (n + 1)) - 1)), (2, .long f_38), (4, .int (nI (n + 1))), (0, .ref (mh G)), (1, .int x)]) hx hb dX8_outNumber_58 hl (by decide) rfl (fun ls hl => ?_)
      refine w_loop (fun j H locs k sl g => ∃ (o2 : Nat → Int32) (F2 : Nat → Nat → Int32) (bm2 : Nat) (yv : Int32) (ls : Array Slot), yv = nI j - 1 ∧ o2 47 = nI bm2 ∧ bm ≤ bm2 ∧ bm2 ≤ mo ∧ Kq LTl o F (o2, F2) ∧ j ≤ 10 ∧ k = 0 ∧ sl = 0 ∧ mP G o2 F2 H ∧ va_S (mA G s.heap.size) s.heap H locs ∧ lv_has ls 6 [(0, .ref (mh G)), (1, .int x), (2, .long f_38), (4, .int (nI (n + 1))), (5, .int yv)] ∧ g = F0 m 60 ls []) ?_ ?_ (n + 1) _ _ _ _ _ ⟨o1, fput F1 50 n f_37, bm1, (nI (n + 1) - 1), ls, rfl, hp1, hp2, hp3, (hp4.F (by decide)), (by omega), rfl, rfl, hP, hS, lv_sub hl [3, 4, 1, 2, 0] rfl, rfl⟩
      · intro H locs k sl g hI
        obtain ⟨o2, F2, bm2, yv, ls, hq0, hq1, hq2, hq3, hq4, hq5, rfl, rfl, hP, hS, hl, rfl⟩ := hI
        have hy : yv = -1 := hq0
        have h48c : o2 48 = nI mo := (hq4 48 (by decide)).1.trans h48
        refine lv_iload hx hb dX8_outNumber_60 (lv_at hl 4 rfl) ?_
        refine lv_if_lt (tgt := 85) hx hb dX8_outNumber_62 (by decide) (fun c_41 => ?_) (fun c_41 => absurd (by rw [hy]; decide) c_41)
        exact m_vret hx hb hr hK hP hS ⟨bm2, hq2, hq3, hq1, hq4⟩ dX8_outNumber_85 hlocks
      · intro j ih9 H locs k sl g hI
        obtain ⟨o2, F2, bm2, yv, ls, hq0, hq1, hq2, hq3, hq4, hq5, rfl, rfl, hP, hS, hl, rfl⟩ := hI
        have hy : yv = nI j := hq0.trans (nI_pred j)
        subst hy
        have h48c : o2 48 = nI mo := (hq4 48 (by decide)).1.trans h48
        refine lv_iload hx hb dX8_outNumber_60 (lv_at hl 4 rfl) ?_
        refine lv_if_lt (tgt := 85) hx hb dX8_outNumber_62 (by decide) (fun c_42 => absurd c_42 (nI_n0 (by omega))) (fun c_42 => ?_)
        refine lv_aload_n hx hb dX8_outNumber_65 rfl (lv_at hl 0 rfl) ?_
        refine lv_bipush (v := 48) hx hb dX8_outNumber_66 (by decide) ?_
        refine lv_aload_n hx hb dX8_outNumber_68 rfl (lv_at hl 0 rfl) ?_
        refine m_get (v := .ref (md G 50)) hx hb htu wu_in hown hK hP 50 (by decide) (htu _ U_207) rfl rfl dX8_outNumber_69 ?_
        refine lv_iload hx hb dX8_outNumber_72 (lv_at hl 4 rfl) ?_
        refine m_ald (j := j) (v := F2 50 j) hx hb hK hP 30 50 rfl (by omega) (by decide) rfl dX8_outNumber_74 ?_
        refine lv_iadd hx hb dX8_outNumber_75 ?_
        refine m_top (y := 48 + (F2 50 j)) rfl ?_
        refine m_cv (m_runV (As := [.int (48 + (F2 50 j))]) (rest := []) ⟨hx, hb, hml, hown, htu⟩ (m_out l G hDD o2 F2 bm2 mo (48 + (F2 50 j)) hq1 h48c hmo hq3 H.size) (cwV 1 htu gU_X8_out rfl rfl rfl (by decide +kernel) ⟨Nat.le_of_ble_eq_true rfl, Nat.le_of_ble_eq_true rfl⟩) hP hK rfl hl.1 rfl (lv_room (Nat.le_of_ble_eq_true rfl)) dX8_outNumber_76) hS (fun o_44 F_45 H locs hw_46 hP hS => ?_)
        try dsimp only at hw_46
        obtain ⟨b_47, b_47a, b_47b, b_47c, b_47d, b_47e⟩ := TL.out hq1 hq3 hw_46
        refine lv_iinc (v := nI j - 1) (lv' := [(5, .int (nI j - 1)), (0, .ref (mh G)), (1, .int x), (2, .long f_38), (4, .int (nI (n + 1)))]) hx hb dX8_outNumber_79 hl (k := 4) rfl (by rw [Int32.sub_eq_add_neg]; rfl) (by decide) rfl (fun ls hl => ?_)
        refine lv_goto (tgt := 60) hx hb dX8_outNumber_82 (by decide) ?_
        exact ih9 _ _ _ _ _ ⟨o_44, F_45, b_47, (nI j - 1), ls, rfl, b_47d, (Nat.le_trans hq2 b_47a), b_47b, (hq4.tr b_47e), (by omega), rfl, rfl, hP, hS, lv_sub hl [1, 2, 3, 4, 0] rfl, rfl⟩
    · intro j ih9 H locs k sl g hI
      obtain ⟨o1, F1, bm1, L, n, ls, hp0, hp1, hp2, hp3, hp4, hp5, hp6, rfl, rfl, hP, hS, hl, rfl⟩ := hI
      have h48b : o1 48 = nI mo := (hp4 48 (by decide)).1.trans h48
      have hn9 : n ≤ 9 := by omega
      refine lv_aload_n hx hb dX8_outNumber_26 rfl (lv_at hl 0 rfl) ?_
      refine m_get (v := .ref (md G 50)) hx hb htu wu_in hown hK hP 50 (by decide) (htu _ U_207) rfl rfl dX8_outNumber_27 ?_
      refine lv_iload hx hb dX8_outNumber_30 (lv_at hl 3 rfl) ?_
      refine lv_lload_n hx hb dX8_outNumber_32 rfl (lv_at hl 2 rfl) ?_
      refine lv_ldc2 (v := 10) hx hb hown (htu _ U_208) dX8_outNumber_33 ?_
      refine lv_lrem hx hb dX8_outNumber_36 (by decide) ?_
      refine lv_topl (fun f_48 ef_48 => ?_)
      refine lv_l2i hx hb dX8_outNumber_37 (v := _) rfl ?_
      refine lv_topi (fun f_49 ef_49 => ?_)
      refine m_ast (j := n) (x := f_49) hx hb hK hP hDD hS 30 50 rfl (by omega) (by decide) (mW_a50 _ _ _ _ _) dX8_outNumber_38 (fun H locs hP hS => ?_)
      refine lv_iinc (v := nI (n + 1)) (lv' := [(4, .int (nI (n + 1))), (0, .ref (mh G)), (1, .int x), (2, .long L)]) hx hb dX8_outNumber_39 hl (k := 3) rfl (nI_1 n) (by decide) rfl (fun ls hl => ?_)
      refine lv_lload_n hx hb dX8_outNumber_42 rfl (lv_at hl 3 rfl) ?_
      refine lv_ldc2 (v := 10) hx hb hown (htu _ U_208) dX8_outNumber_43 ?_
      refine lv_ldiv hx hb dX8_outNumber_46 (by decide) ?_
      refine lv_topl (fun f_50 ef_50 => ?_)
      refine lv_lstore_n (lv' := [(2, .long f_50), (4, .int (nI (n + 1))), (0, .ref (mh G)), (1, .int x)]) hx hb dX8_outNumber_47 rfl hl (by decide) rfl (fun ls hl => ?_)
      refine lv_lload_n hx hb dX8_outNumber_48 rfl (lv_at hl 0 rfl) ?_
      refine lv_lconst (v := 0) hx hb dX8_outNumber_49 (by decide) ?_
      refine W.lcmp hx hb dX8_outNumber_50 ?_
      refine lv_topi (fun f_51 ef_51 => ?_)
      refine lv_if_gt (tgt := 26) hx hb dX8_outNumber_51 (by decide) (fun c_52 => ?_) (fun c_52 => ?_)
      · skip
        exact ih9 _ _ _ _ _ ⟨o1, (fput F1 50 n f_49), bm1, f_50, n + 1, ls, by omega, hp1, hp2, hp3, hp4.F (by decide), (by rw [ef_50]; exact (l10_d hp5 hp6).1), (by rw [ef_50]; exact (l10_d hp5 hp6).2), rfl, rfl, hP, hS, lv_sub hl [2, 3, 0, 1] rfl, rfl⟩
      · skip
        refine lv_iload hx hb dX8_outNumber_54 (lv_at hl 1 rfl) ?_
        refine lv_iconst (v := 1) hx hb dX8_outNumber_56 (by decide) ?_
        refine lv_isub hx hb dX8_outNumber_57 ?_
        refine m_top (y := (nI (n + 1)) - 1) rfl ?_
        refine lv_istore (lv' := [(5, .int ((nI (n + 1)) - 1)), (2, .long f_50), (4, .int (nI (n + 1))), (0, .ref (mh G)), (1, .int x)]) hx hb dX8_outNumber_58 hl (by decide) rfl (fun ls hl => ?_)
        refine w_loop (fun j H locs k sl g => ∃ (o2 : Nat → Int32) (F2 : Nat → Nat → Int32) (bm2 : Nat) (yv : Int32) (ls : Array Slot), yv = nI j - 1 ∧ o2 47 = nI bm2 ∧ bm ≤ bm2 ∧ bm2 ≤ mo ∧ Kq LTl o F (o2, F2) ∧ j ≤ 10 ∧ k = 0 ∧ sl = 0 ∧ mP G o2 F2 H ∧ va_S (mA G s.heap.size) s.heap H locs ∧ lv_has ls 6 [(0, .ref (mh G)), (1, .int x), (2, .long f_50), (4, .int (nI (n + 1))), (5, .int yv)] ∧ g = F0 m 60 ls []) ?_ ?_ (n + 1) _ _ _ _ _ ⟨o1, fput F1 50 n f_49, bm1, (nI (n + 1) - 1), ls, rfl, hp1, hp2, hp3, (hp4.F (by decide)), (by omega), rfl, rfl, hP, hS, lv_sub hl [3, 4, 1, 2, 0] rfl, rfl⟩
        · intro H locs k sl g hI
          obtain ⟨o2, F2, bm2, yv, ls, hq0, hq1, hq2, hq3, hq4, hq5, rfl, rfl, hP, hS, hl, rfl⟩ := hI
          have hy : yv = -1 := hq0
          have h48c : o2 48 = nI mo := (hq4 48 (by decide)).1.trans h48
          refine lv_iload hx hb dX8_outNumber_60 (lv_at hl 4 rfl) ?_
          refine lv_if_lt (tgt := 85) hx hb dX8_outNumber_62 (by decide) (fun c_53 => ?_) (fun c_53 => absurd (by rw [hy]; decide) c_53)
          exact m_vret hx hb hr hK hP hS ⟨bm2, hq2, hq3, hq1, hq4⟩ dX8_outNumber_85 hlocks
        · intro j ih9 H locs k sl g hI
          obtain ⟨o2, F2, bm2, yv, ls, hq0, hq1, hq2, hq3, hq4, hq5, rfl, rfl, hP, hS, hl, rfl⟩ := hI
          have hy : yv = nI j := hq0.trans (nI_pred j)
          subst hy
          have h48c : o2 48 = nI mo := (hq4 48 (by decide)).1.trans h48
          refine lv_iload hx hb dX8_outNumber_60 (lv_at hl 4 rfl) ?_
          refine lv_if_lt (tgt := 85) hx hb dX8_outNumber_62 (by decide) (fun c_54 => absurd c_54 (nI_n0 (by omega))) (fun c_54 => ?_)
          refine lv_aload_n hx hb dX8_outNumber_65 rfl (lv_at hl 0 rfl) ?_
          refine lv_bipush (v := 48) hx hb dX8_outNumber_66 (by decide) ?_
          refine lv_aload_n hx hb dX8_outNumber_68 rfl (lv_at hl 0 rfl) ?_
          refine m_get (v := .ref (md G 50)) hx hb htu wu_in hown hK hP 50 (by decide) (htu _ U_207) rfl rfl dX8_outNumber_69 ?_
          refine lv_iload hx hb dX8_outNumber_72 (lv_at hl 4 rfl) ?_
          refine m_ald (j := j) (v := F2 50 j) hx hb hK hP 30 50 rfl (by omega) (by decide) rfl dX8_outNumber_74 ?_
          refine lv_iadd hx hb dX8_outNumber_75 ?_
          refine m_top (y := 48 + (F2 50 j)) rfl ?_
          refine m_cv (m_runV (As := [.int (48 + (F2 50 j))]) (rest := []) ⟨hx, hb, hml, hown, htu⟩ (m_out l G hDD o2 F2 bm2 mo (48 + (F2 50 j)) hq1 h48c hmo hq3 H.size) (cwV 1 htu gU_X8_out rfl rfl rfl (by decide +kernel) ⟨Nat.le_of_ble_eq_true rfl, Nat.le_of_ble_eq_true rfl⟩) hP hK rfl hl.1 rfl (lv_room (Nat.le_of_ble_eq_true rfl)) dX8_outNumber_76) hS (fun o_56 F_57 H locs hw_58 hP hS => ?_)
          try dsimp only at hw_58
          obtain ⟨b_59, b_59a, b_59b, b_59c, b_59d, b_59e⟩ := TL.out hq1 hq3 hw_58
          refine lv_iinc (v := nI j - 1) (lv' := [(5, .int (nI j - 1)), (0, .ref (mh G)), (1, .int x), (2, .long f_50), (4, .int (nI (n + 1)))]) hx hb dX8_outNumber_79 hl (k := 4) rfl (by rw [Int32.sub_eq_add_neg]; rfl) (by decide) rfl (fun ls hl => ?_)
          refine lv_goto (tgt := 60) hx hb dX8_outNumber_82 (by decide) ?_
          exact ih9 _ _ _ _ _ ⟨o_56, F_57, b_59, (nI j - 1), ls, rfl, b_59d, (Nat.le_trans hq2 b_59a), b_59b, (hq4.tr b_59e), (by omega), rfl, rfl, hP, hS, lv_sub hl [1, 2, 3, 4, 0] rfl, rfl⟩

