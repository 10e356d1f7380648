/-! ===== a TYPE told in the second program ===== -/
theorem MG9.out4 {o : Nat → Int32} {F : Nat → Nat → Int32} {L : List Int32} {x : Int32} {u : mS} (h : MG9 o F L) (hu : u = if L.length < 400 then (upd o 47 (nI (L.length + 1)), fput F 46 L.length (vp_nar .byte x.toInt8.toInt32)) else (o, F)) : MG9 u.1 u.2 (lput 400 L (b8 x)) ∧ Kq [46, 47] o F u := by
  by_cases hl : L.length < 400
  · rw [if_pos hl] at hu
    subst hu
    rw [lput_lt hl]
    refine ⟨⟨by rw [List.length_append]; rfl, fun j hj => ?_⟩, (Kq.rf.o (by decide)).F (by decide)⟩
    rw [List.length_append, List.length_singleton] at hj
    rw [gD_app]
    by_cases h1 : j < L.length
    · rw [if_pos h1]
      exact (show fput F 46 L.length (vp_nar .byte x.toInt8.toInt32) 46 j = F 46 j from fput_j (by omega)).trans (h.2 j h1)
    · rw [if_neg h1, if_pos (by omega), show j = L.length by omega]
      show fput F 46 L.length (vp_nar .byte x.toInt8.toInt32) 46 L.length = _
      exact fput_s
  · rw [if_neg hl] at hu
    subst hu
    rw [lput_full hl]
    exact ⟨h, Kq.rf⟩
abbrev LTn : List Nat := [46, 47, 50]
theorem n97 (k : Nat) : (97 : Int32) + nI k = nI (97 + k) := by
  rw [Int32.add_comm, Nat.add_comm]
  exact nI_add k 97

set_option maxHeartbeats 4000000 in
set_option maxRecDepth 100000 in
/-- outNumber -/
theorem xt_outNumber (l : Launch) (G : mG) (hDD : mDD G) (o : Nat → Int32) (F : Nat → Nat → Int32) (L9 : List Int32) (x : Int32) (hG : MG9 o F L9) (hcap : L9.length ≤ 400) (h48 : o 48 = nI 400) (sz : Nat) : Met l yX8_outNumber (wU yX8_outNumber cX8_outNumber 6 none) { frames := 1, cells := 0, slots := 0, locals := 21 } (mPc G o F sz [.ref (mh G), .int x]) (mQv G sz (fun u => MG9 u.1 u.2 (lputs 400 L9 (figs x)) ∧ Kq LTn o F u)) 0 0 (mA G sz) := by
  refine Met.ofW (cc := cX8_outNumber) (maxL := 6) (ret := none) (by decide) rfl ?_
  intro p e s m args below meth c s₁ B hml hv
  obtain ⟨rfl, hsz, hP, hK⟩ := hv
  have hx := B.exec
  have hb := B.bytes
  have hr := B.returns
  have htu : ∀ w ∈ WU, w.before _ s = true := fun w h => atoms_spec (ws := (wU yX8_outNumber cX8_outNumber 6 none)) B.pre w (List.mem_cons_of_mem _ h)
  have hown : s.vm.findClass RX8 = some m.cls := findClass_of_methodNamed B.named
  have hlocks := B.notSynchronized
  subst hsz
  have hS : va_S (mA G s.heap.size) s.heap s.heap [] := va_S.rf
  have hl := lv_entry ([.ref (mh G), .int x]) (n := 6) (Nat.le_of_ble_eq_true rfl)
  rw [lg_entry_eq]
  generalize (lg_sl ([.ref (mh G), .int x]) ++ List.replicate (6 - (lg_sl ([.ref (mh G), .int x])).length) Slot.unset).toArray = ls at hl ⊢
  have hl : lv_has ls 6 [(0, .ref (mh G)), (1, .int x)] := hl
  obtain ⟨H, hHe⟩ : ∃ H : Heap, H = s.heap := ⟨_, rfl⟩
  rw [← hHe] at hP
  have hS : va_S (mA G s.heap.size) s.heap H [] := by rw [hHe]; exact va_S.rf
  refine W.heq hHe ?_
  refine lv_iload_n hx hb dX8_outNumber_0 rfl (lv_at hl 1 rfl) ?_
  refine lv_if_ge (tgt := 10) hx hb dX8_outNumber_1 (by decide) (fun c_1 => ?_) (fun c_1 => ?_)
  · skip
    refine lv_iload_n hx hb dX8_outNumber_10 rfl (lv_at hl 1 rfl) ?_
    refine lv_i2l hx hb dX8_outNumber_11 (v := _) rfl ?_
    refine lv_topl (fun f_2 ef_2 => ?_)
    refine lv_lstore_n (lv' := [(2, .long f_2), (0, .ref (mh G)), (1, .int x)]) hx hb dX8_outNumber_12 rfl hl (by decide) rfl (fun ls hl => ?_)
    refine lv_iload_n hx hb dX8_outNumber_13 rfl (lv_at hl 2 rfl) ?_
    refine lv_if_ge (tgt := 23) hx hb dX8_outNumber_14 (by decide) (fun c_3 => ?_) (fun c_3 => absurd c_1 c_3)
    refine lv_iconst (v := 0) hx hb dX8_outNumber_23 (by decide) ?_
    refine lv_istore (lv' := [(4, .int 0), (2, .long f_2), (0, .ref (mh G)), (1, .int x)]) hx hb dX8_outNumber_24 hl (by decide) rfl (fun ls hl => ?_)
    refine w_loop (fun j H locs k sl g => ∃ (o1 : Nat → Int32) (F1 : Nat → Nat → Int32) (L1 : List Int32) (L : Int64) (n : Nat) (ls : Array Slot), n + j = 9 ∧ MG9 o1 F1 L1 ∧ L1.length ≤ 400 ∧ Kq LTn o F (o1, F1) ∧ L.toInt = ((mag x / 10 ^ n : Nat) : Int) ∧ (∀ q, q < n → F1 50 q = nI (mag x / 10 ^ q % 10)) ∧ (n = 0 ∨ mag x / 10 ^ n ≠ 0) ∧ lputs 400 L1 (fd (mag x) 10 0 false) = lputs 400 L9 (figs x) ∧ k = 0 ∧ sl = 0 ∧ mP G o1 F1 H ∧ va_S (mA G s.heap.size) s.heap H locs ∧ lv_has ls 6 [(0, .ref (mh G)), (1, .int x), (2, .long L), (4, .int (nI n))] ∧ g = F0 m 26 ls []) ?_ ?_ 9 _ _ _ _ _ ⟨o, F, L9, f_2, 0, ls, by omega, hG, hcap, Kq.rf, (by rw [ef_2, Nat.pow_zero, Nat.div_one]; exact pos_rest (Int32.not_lt.mpr c_1)), (fun q h => absurd h (Nat.not_lt_zero _)), (Or.inl rfl), (figs_p2 (Int32.not_lt.mpr c_1)), rfl, rfl, hP, hS, lv_sub hl [2, 3, 1, 0] rfl, rfl⟩
    · intro H locs k sl g hI
      obtain ⟨o1, F1, L1, L, n, ls, hp0, hp1, hp2, hp3, hp4, hp5, hp6, hp7, rfl, rfl, hP, hS, hl, rfl⟩ := hI
      have hm31 : mag x / 10 ^ n ≤ 2 ^ 31 := Nat.le_trans (Nat.div_le_self _ _) mag_le
      have hn9 : n ≤ 9 := by omega
      refine lv_aload_n hx hb dX8_outNumber_26 rfl (lv_at hl 0 rfl) ?_
      refine m_get (v := .ref (md G 50)) hx hb htu wu_in hown hK hP 50 (by decide) (htu _ U_207) rfl rfl dX8_outNumber_27 ?_
      refine lv_iload hx hb dX8_outNumber_30 (lv_at hl 3 rfl) ?_
      refine lv_lload_n hx hb dX8_outNumber_32 rfl (lv_at hl 2 rfl) ?_
      refine lv_ldc2 (v := 10) hx hb hown (htu _ U_208) dX8_outNumber_33 ?_
      refine lv_lrem hx hb dX8_outNumber_36 (by decide) ?_
      refine lv_topl (fun f_4 ef_4 => ?_)
      refine lv_l2i hx hb dX8_outNumber_37 (v := _) rfl ?_
      refine lv_topi (fun f_5 ef_5 => ?_)
      have hfg : f_5 = nI (mag x / 10 ^ n % 10) := ef_5.trans (by rw [ef_4, rem_at hp4 hm31]; exact i32_of _ (Nat.mod_lt _ (by decide)))
      refine m_ast (j := n) (x := f_5) hx hb hK hP hDD hS 30 50 rfl (by omega) (by decide) (mW_a50 _ _ _ _ _) dX8_outNumber_38 (fun H locs hP hS => ?_)
      refine lv_iinc (v := nI (n + 1)) (lv' := [(4, .int (nI (n + 1))), (0, .ref (mh G)), (1, .int x), (2, .long L)]) hx hb dX8_outNumber_39 hl (k := 3) rfl (nI_1 n) (by decide) rfl (fun ls hl => ?_)
      refine lv_lload_n hx hb dX8_outNumber_42 rfl (lv_at hl 3 rfl) ?_
      refine lv_ldc2 (v := 10) hx hb hown (htu _ U_208) dX8_outNumber_43 ?_
      refine lv_ldiv hx hb dX8_outNumber_46 (by decide) ?_
      refine lv_topl (fun f_6 ef_6 => ?_)
      refine lv_lstore_n (lv' := [(2, .long f_6), (4, .int (nI (n + 1))), (0, .ref (mh G)), (1, .int x)]) hx hb dX8_outNumber_47 rfl hl (by decide) rfl (fun ls hl => ?_)
      refine lv_lload_n hx hb dX8_outNumber_48 rfl (lv_at hl 0 rfl) ?_
      refine lv_lconst (v := 0) hx hb dX8_outNumber_49 (by decide) ?_
      refine W.lcmp hx hb dX8_outNumber_50 ?_
      refine lv_topi (fun f_7 ef_7 => ?_)
      refine lv_if_gt (tgt := 26) hx hb dX8_outNumber_51 (by decide) (fun c_8 => absurd c_8 (fun h9 => by rw [ef_7] at h9; have h8 := lcmp_g.mp h9; rw [ef_6, quo_at hp4 hm31] at h8; have hn9 : n = 9 := (by omega); rw [hn9] at h8; have h7 := mag_le (y := x); omega)) (fun c_8 => ?_)
      refine lv_iload hx hb dX8_outNumber_54 (lv_at hl 1 rfl) ?_
      refine lv_iconst (v := 1) hx hb dX8_outNumber_56 (by decide) ?_
      refine lv_isub hx hb dX8_outNumber_57 ?_
      refine m_top (y := (nI (n + 1)) - 1) rfl ?_
      refine lv_istore (lv' := [(5, .int ((nI (n + 1)) - 1)), (2, .long f_6), (4, .int (nI (n + 1))), (0, .ref (mh G)), (1, .int x)]) hx hb dX8_outNumber_58 hl (by decide) rfl (fun ls hl => ?_)
      have hc10 : mag x < 10 ^ (n + 1) := by
        have h7 := mag_le (y := x)
        have hn : n = 9 := by omega
        rw [hn]
        omega
      have hT : lputs 400 L1 (dgs (mag x) (n + 1)) = lputs 400 L9 (figs x) := by rw [← hp7, fd_dgs hn9 hc10 hp6]
      refine w_loop (fun j H locs k sl g => ∃ (o2 : Nat → Int32) (F2 : Nat → Nat → Int32) (Lq : List Int32) (yv : Int32) (ls : Array Slot), yv = nI j - 1 ∧ MG9 o2 F2 Lq ∧ Lq.length ≤ 400 ∧ Kq LTn o F (o2, F2) ∧ j ≤ n + 1 ∧ (∀ q, q < n + 1 → F2 50 q = nI (mag x / 10 ^ q % 10)) ∧ lputs 400 Lq (dgs (mag x) j) = lputs 400 L9 (figs x) ∧ k = 0 ∧ sl = 0 ∧ mP G o2 F2 H ∧ va_S (mA G s.heap.size) s.heap H locs ∧ lv_has ls 6 [(0, .ref (mh G)), (1, .int x), (2, .long f_6), (4, .int (nI (n + 1))), (5, .int yv)] ∧ g = F0 m 60 ls []) ?_ ?_ (n + 1) _ _ _ _ _ ⟨o1, fput F1 50 n f_5, L1, (nI (n + 1) - 1), ls, rfl, (hp1.keep rfl rfl), hp2, (hp3.F (by decide)), (by omega), (fig_cell hfg hp5), hT, rfl, rfl, hP, hS, lv_sub hl [3, 4, 1, 2, 0] rfl, rfl⟩
      · intro H locs k sl g hI
        obtain ⟨o2, F2, Lq, yv, ls, hq0, hq1, hq2, hq3, hq4, hq5, hq6, rfl, rfl, hP, hS, hl, rfl⟩ := hI
        have hy : yv = -1 := hq0
        refine lv_iload hx hb dX8_outNumber_60 (lv_at hl 4 rfl) ?_
        refine lv_if_lt (tgt := 85) hx hb dX8_outNumber_62 (by decide) (fun c_9 => ?_) (fun c_9 => absurd (by rw [hy]; decide) c_9)
        exact m_vret hx hb hr hK hP hS ⟨hq6 ▸ hq1, hq3⟩ dX8_outNumber_85 hlocks
      · intro j ih9 H locs k sl g hI
        obtain ⟨o2, F2, Lq, yv, ls, hq0, hq1, hq2, hq3, hq4, hq5, hq6, rfl, rfl, hP, hS, hl, rfl⟩ := hI
        have hy : yv = nI j := hq0.trans (nI_pred j)
        subst hy
        have h48c : o2 48 = nI 400 := (hq3 48 (by decide)).1.trans h48
        refine lv_iload hx hb dX8_outNumber_60 (lv_at hl 4 rfl) ?_
        refine lv_if_lt (tgt := 85) hx hb dX8_outNumber_62 (by decide) (fun c_10 => absurd c_10 (nI_n0 (by omega))) (fun c_10 => ?_)
        refine lv_aload_n hx hb dX8_outNumber_65 rfl (lv_at hl 0 rfl) ?_
        refine lv_bipush (v := 48) hx hb dX8_outNumber_66 (by decide) ?_
        refine lv_aload_n hx hb dX8_outNumber_68 rfl (lv_at hl 0 rfl) ?_
        refine m_get (v := .ref (md G 50)) hx hb htu wu_in hown hK hP 50 (by decide) (htu _ U_207) rfl rfl dX8_outNumber_69 ?_
        refine lv_iload hx hb dX8_outNumber_72 (lv_at hl 4 rfl) ?_
        refine m_ald (j := j) (v := nI (mag x / 10 ^ j % 10)) hx hb hK hP 30 50 rfl (by omega) (by decide) (hq5 j (by omega)) dX8_outNumber_74 ?_
        refine lv_iadd hx hb dX8_outNumber_75 ?_
        refine m_top (y := nI (48 + (mag x / 10 ^ j % 10))) (nI_add 48 (mag x / 10 ^ j % 10)) ?_
        refine m_cv (m_runV (As := [.int (nI (48 + (mag x / 10 ^ j % 10)))]) (rest := []) ⟨hx, hb, hml, hown, htu⟩ (m_out l G hDD o2 F2 ((Lq).length) 400 (nI (48 + (mag x / 10 ^ j % 10))) hq1.1 h48c ((by decide)) hq2 H.size) (cwV 1 htu gU_X8_out rfl rfl rfl (by decide +kernel) ⟨Nat.le_of_ble_eq_true rfl, Nat.le_of_ble_eq_true rfl⟩) hP hK rfl hl.1 rfl (lv_room (Nat.le_of_ble_eq_true rfl)) dX8_outNumber_76) hS (fun o_12 F_13 H locs hw_14 hP hS => ?_)
        try dsimp only at hw_14
        obtain ⟨b_15g, b_15q⟩ := MG9.out4 hq1 hw_14
        have b_15c := (lput_len (cap := 400) (b := b8 (nI (48 + (mag x / 10 ^ j % 10)))) hq2).1
        refine lv_iinc (v := nI j - 1) (lv' := [(5, .int (nI j - 1)), (0, .ref (mh G)), (1, .int x), (2, .long f_6), (4, .int (nI (n + 1)))]) hx hb dX8_outNumber_79 hl (k := 4) rfl (by rw [Int32.sub_eq_add_neg]; rfl) (by decide) rfl (fun ls hl => ?_)
        refine lv_goto (tgt := 60) hx hb dX8_outNumber_82 (by decide) ?_
        have b_15o : F_13 50 = F2 50 := (b_15q 50 (by decide)).2
        exact ih9 _ _ _ _ _ ⟨o_12, F_13, (lput 400 Lq (b8 (nI (48 + (mag x / 10 ^ j % 10))))), (nI j - 1), ls, rfl, b_15g, b_15c, (hq3.tr (b_15q.mono (by decide))), (by omega), (fun q hq => by rw [(b_15o)]; exact hq5 q hq), hq6, rfl, rfl, hP, hS, lv_sub hl [1, 2, 3, 4, 0] rfl, rfl⟩
    · intro j ih9 H locs k sl g hI
      obtain ⟨o1, F1, L1, L, n, ls, hp0, hp1, hp2, hp3, hp4, hp5, hp6, hp7, rfl, rfl, hP, hS, hl, rfl⟩ := hI
      have hm31 : mag x / 10 ^ n ≤ 2 ^ 31 := Nat.le_trans (Nat.div_le_self _ _) mag_le
      have hn9 : n ≤ 9 := by omega
      refine lv_aload_n hx hb dX8_outNumber_26 rfl (lv_at hl 0 rfl) ?_
      refine m_get (v := .ref (md G 50)) hx hb htu wu_in hown hK hP 50 (by decide) (htu _ U_207) rfl rfl dX8_outNumber_27 ?_
      refine lv_iload hx hb dX8_outNumber_30 (lv_at hl 3 rfl) ?_
      refine lv_lload_n hx hb dX8_outNumber_32 rfl (lv_at hl 2 rfl) ?_
      refine lv_ldc2 (v := 10) hx hb hown (htu _ U_208) dX8_outNumber_33 ?_
      refine lv_lrem hx hb dX8_outNumber_36 (by decide) ?_
      refine lv_topl (fun f_16 ef_16 => ?_)
      refine lv_l2i hx hb dX8_outNumber_37 (v := _) rfl ?_
      refine lv_topi (fun f_17 ef_17 => ?_)
      have hfg : f_17 = nI (mag x / 10 ^ n % 10) := ef_17.trans (by rw [ef_16, rem_at hp4 hm31]; exact i32_of _ (Nat.mod_lt _ (by decide)))
      refine m_ast (j := n) (x := f_17) hx hb hK hP hDD hS 30 50 rfl (by omega) (by decide) (mW_a50 _ _ _ _ _) dX8_outNumber_38 (fun H locs hP hS => ?_)
      refine lv_iinc (v := nI (n + 1)) (lv' := [(4, .int (nI (n + 1))), (0, .ref (mh G)), (1, .int x), (2, .long L)]) hx hb dX8_outNumber_39 hl (k := 3) rfl (nI_1 n) (by decide) rfl (fun ls hl => ?_)
      refine lv_lload_n hx hb dX8_outNumber_42 rfl (lv_at hl 3 rfl) ?_
      refine lv_ldc2 (v := 10) hx hb hown (htu _ U_208) dX8_outNumber_43 ?_
      refine lv_ldiv hx hb dX8_outNumber_46 (by decide) ?_
      refine lv_topl (fun f_18 ef_18 => ?_)
      refine lv_lstore_n (lv' := [(2, .long f_18), (4, .int (nI (n + 1))), (0, .ref (mh G)), (1, .int x)]) hx hb dX8_outNumber_47 rfl hl (by decide) rfl (fun ls hl => ?_)
      refine lv_lload_n hx hb dX8_outNumber_48 rfl (lv_at hl 0 rfl) ?_
      refine lv_lconst (v := 0) hx hb dX8_outNumber_49 (by decide) ?_
      refine W.lcmp hx hb dX8_outNumber_50 ?_
      refine lv_topi (fun f_19 ef_19 => ?_)
      refine lv_if_gt (tgt := 26) hx hb dX8_outNumber_51 (by decide) (fun c_20 => ?_) (fun c_20 => ?_)
      · skip
        exact ih9 _ _ _ _ _ ⟨o1, (fput F1 50 n f_17), L1, f_18, n + 1, ls, by omega, (hp1.keep rfl rfl), hp2, hp3.F (by decide), (by rw [ef_18, quo_at hp4 hm31, Nat.div_div_eq_div_mul, ← Nat.pow_succ]), (fig_cell hfg hp5), (Or.inr (by rw [Nat.pow_succ, ← Nat.div_div_eq_div_mul]; have h8 := lcmp_g.mp (ef_19 ▸ c_20); rw [ef_18, quo_at hp4 hm31] at h8; omega)), hp7, rfl, rfl, hP, hS, lv_sub hl [2, 3, 0, 1] rfl, rfl⟩
      · skip
        refine lv_iload hx hb dX8_outNumber_54 (lv_at hl 1 rfl) ?_
        refine lv_iconst (v := 1) hx hb dX8_outNumber_56 (by decide) ?_
        refine lv_isub hx hb dX8_outNumber_57 ?_
        refine m_top (y := (nI (n + 1)) - 1) rfl ?_
        refine lv_istore (lv' := [(5, .int ((nI (n + 1)) - 1)), (2, .long f_18), (4, .int (nI (n + 1))), (0, .ref (mh G)), (1, .int x)]) hx hb dX8_outNumber_58 hl (by decide) rfl (fun ls hl => ?_)
        have hc10 : mag x < 10 ^ (n + 1) := by
          have h7 := mag_le (y := x)
          have h8 : ¬ 0 < (f_18).toInt := fun z => c_20 (by rw [ef_19]; exact lcmp_g.mpr z)
          rw [ef_18, quo_at hp4 hm31] at h8
          have h9 : mag x / 10 ^ n / 10 = 0 := by generalize mag x / 10 ^ n / 10 = w9 at h8 ⊢; omega
          rw [Nat.div_div_eq_div_mul, ← Nat.pow_succ] at h9
          exact Nat.lt_of_div_eq_zero (Nat.pow_pos (by decide)) h9
        have hT : lputs 400 L1 (dgs (mag x) (n + 1)) = lputs 400 L9 (figs x) := by rw [← hp7, fd_dgs hn9 hc10 hp6]
        refine w_loop (fun j H locs k sl g => ∃ (o2 : Nat → Int32) (F2 : Nat → Nat → Int32) (Lq : List Int32) (yv : Int32) (ls : Array Slot), yv = nI j - 1 ∧ MG9 o2 F2 Lq ∧ Lq.length ≤ 400 ∧ Kq LTn o F (o2, F2) ∧ j ≤ n + 1 ∧ (∀ q, q < n + 1 → F2 50 q = nI (mag x / 10 ^ q % 10)) ∧ lputs 400 Lq (dgs (mag x) j) = lputs 400 L9 (figs x) ∧ k = 0 ∧ sl = 0 ∧ mP G o2 F2 H ∧ va_S (mA G s.heap.size) s.heap H locs ∧ lv_has ls 6 [(0, .ref (mh G)), (1, .int x), (2, .long f_18), (4, .int (nI (n + 1))), (5, .int yv)] ∧ g = F0 m 60 ls []) ?_ ?_ (n + 1) _ _ _ _ _ ⟨o1, fput F1 50 n f_17, L1, (nI (n + 1) - 1), ls, rfl, (hp1.keep rfl rfl), hp2, (hp3.F (by decide)), (by omega), (fig_cell hfg hp5), hT, rfl, rfl, hP, hS, lv_sub hl [3, 4, 1, 2, 0] rfl, rfl⟩
        · intro H locs k sl g hI
          obtain ⟨o2, F2, Lq, yv, ls, hq0, hq1, hq2, hq3, hq4, hq5, hq6, rfl, rfl, hP, hS, hl, rfl⟩ := hI
          have hy : yv = -1 := hq0
          refine lv_iload hx hb dX8_outNumber_60 (lv_at hl 4 rfl) ?_
          refine lv_if_lt (tgt := 85) hx hb dX8_outNumber_62 (by decide) (fun c_21 => ?_) (fun c_21 => absurd (by rw [hy]; decide) c_21)
          exact m_vret hx hb hr hK hP hS ⟨hq6 ▸ hq1, hq3⟩ dX8_outNumber_85 hlocks
        · intro j ih9 H locs k sl g hI
          obtain ⟨o2, F2, Lq, yv, ls, hq0, hq1, hq2, hq3, hq4, hq5, hq6, rfl, rfl, hP, hS, hl, rfl⟩ := hI
          have hy : yv = nI j := hq0.trans (nI_pred j)
          subst hy
          have h48c : o2 48 = nI 400 := (hq3 48 (by decide)).1.trans h48
          refine lv_iload hx hb dX8_outNumber_60 (lv_at hl 4 rfl) ?_
          refine lv_if_lt (tgt := 85) hx hb dX8_outNumber_62 (by decide) (fun c_22 => absurd c_22 (nI_n0 (by omega))) (fun c_22 => ?_)
          refine lv_aload_n hx hb dX8_outNumber_65 rfl (lv_at hl 0 rfl) ?_
          refine lv_bipush (v := 48) hx hb dX8_outNumber_66 (by decide) ?_
          refine lv_aload_n hx hb dX8_outNumber_68 rfl (lv_at hl 0 rfl) ?_
          refine m_get (v := .ref (md G 50)) hx hb htu wu_in hown hK hP 50 (by decide) (htu _ U_207) rfl rfl dX8_outNumber_69 ?_
          refine lv_iload hx hb dX8_outNumber_72 (lv_at hl 4 rfl) ?_
          refine m_ald (j := j) (v := nI (mag x / 10 ^ j % 10)) hx hb hK hP 30 50 rfl (by omega) (by decide) (hq5 j (by omega)) dX8_outNumber_74 ?_
          refine lv_iadd hx hb dX8_outNumber_75 ?_
          refine m_top (y := nI (48 + (mag x / 10 ^ j % 10))) (nI_add 48 (mag x / 10 ^ j % 10)) ?_
          refine m_cv (m_runV (As := [.int (nI (48 + (mag x / 10 ^ j % 10)))]) (rest := []) ⟨hx, hb, hml, hown, htu⟩ (m_out l G hDD o2 F2 ((Lq).length) 400 (nI (48 + (mag x / 10 ^ j % 10))) hq1.1 h48c ((by decide)) hq2 H.size) (cwV 1 htu gU_X8_out rfl rfl rfl (by decide +kernel) ⟨Nat.le_of_ble_eq_true rfl, Nat.le_of_ble_eq_true rfl⟩) hP hK rfl hl.1 rfl (lv_room (Nat.le_of_ble_eq_true rfl)) dX8_outNumber_76) hS (fun o_24 F_25 H locs hw_26 hP hS => ?_)
          try dsimp only at hw_26
          obtain ⟨b_27g, b_27q⟩ := MG9.out4 hq1 hw_26
          have b_27c := (lput_len (cap := 400) (b := b8 (nI (48 + (mag x / 10 ^ j % 10)))) hq2).1
          refine lv_iinc (v := nI j - 1) (lv' := [(5, .int (nI j - 1)), (0, .ref (mh G)), (1, .int x), (2, .long f_18), (4, .int (nI (n + 1)))]) hx hb dX8_outNumber_79 hl (k := 4) rfl (by rw [Int32.sub_eq_add_neg]; rfl) (by decide) rfl (fun ls hl => ?_)
          refine lv_goto (tgt := 60) hx hb dX8_outNumber_82 (by decide) ?_
          have b_27o : F_25 50 = F2 50 := (b_27q 50 (by decide)).2
          exact ih9 _ _ _ _ _ ⟨o_24, F_25, (lput 400 Lq (b8 (nI (48 + (mag x / 10 ^ j % 10))))), (nI j - 1), ls, rfl, b_27g, b_27c, (hq3.tr (b_27q.mono (by decide))), (by omega), (fun q hq => by rw [(b_27o)]; exact hq5 q hq), hq6, rfl, rfl, hP, hS, lv_sub hl [1, 2, 3, 4, 0] rfl, rfl⟩
  · skip
    refine lv_iload_n hx hb dX8_outNumber_4 rfl (lv_at hl 1 rfl) ?_
    refine lv_i2l hx hb dX8_outNumber_5 (v := _) rfl ?_
    refine lv_topl (fun f_28 ef_28 => ?_)
    refine lv_lneg hx hb dX8_outNumber_6 ?_
    refine lv_topl (fun f_29 ef_29 => ?_)
    refine lv_goto (tgt := 12) hx hb dX8_outNumber_7 (by decide) ?_
    refine lv_lstore_n (lv' := [(2, .long f_29), (0, .ref (mh G)), (1, .int x)]) hx hb dX8_outNumber_12 rfl hl (by decide) rfl (fun ls hl => ?_)
    refine lv_iload_n hx hb dX8_outNumber_13 rfl (lv_at hl 2 rfl) ?_
    refine lv_if_ge (tgt := 23) hx hb dX8_outNumber_14 (by decide) (fun c_30 => absurd c_30 c_1) (fun c_30 => ?_)
    refine lv_aload_n hx hb dX8_outNumber_17 rfl (lv_at hl 1 rfl) ?_
    refine lv_bipush (v := 45) hx hb dX8_outNumber_18 (by decide) ?_
    refine m_cv (m_runV (As := [.int 45]) (rest := []) ⟨hx, hb, hml, hown, htu⟩ (m_out l G hDD o F ((L9).length) 400 45 hG.1 h48 ((by decide)) hcap H.size) (cwV 1 htu gU_X8_out rfl rfl rfl (by decide +kernel) ⟨Nat.le_of_ble_eq_true rfl, Nat.le_of_ble_eq_true rfl⟩) hP hK rfl hl.1 rfl (lv_room (Nat.le_of_ble_eq_true rfl)) dX8_outNumber_20) hS (fun o_32 F_33 H locs hw_34 hP hS => ?_)
    try dsimp only at hw_34
    obtain ⟨b_35g, b_35q⟩ := MG9.out4 hG hw_34
    have b_35c := (lput_len (cap := 400) (b := b8 45) hcap).1
    refine lv_iconst (v := 0) hx hb dX8_outNumber_23 (by decide) ?_
    refine lv_istore (lv' := [(4, .int 0), (2, .long f_29), (0, .ref (mh G)), (1, .int x)]) hx hb dX8_outNumber_24 hl (by decide) rfl (fun ls hl => ?_)
    refine w_loop (fun j H locs k sl g => ∃ (o1 : Nat → Int32) (F1 : Nat → Nat → Int32) (L1 : List Int32) (L : Int64) (n : Nat) (ls : Array Slot), n + j = 9 ∧ MG9 o1 F1 L1 ∧ L1.length ≤ 400 ∧ Kq LTn o F (o1, F1) ∧ L.toInt = ((mag x / 10 ^ n : Nat) : Int) ∧ (∀ q, q < n → F1 50 q = nI (mag x / 10 ^ q % 10)) ∧ (n = 0 ∨ mag x / 10 ^ n ≠ 0) ∧ lputs 400 L1 (fd (mag x) 10 0 false) = lputs 400 L9 (figs x) ∧ k = 0 ∧ sl = 0 ∧ mP G o1 F1 H ∧ va_S (mA G s.heap.size) s.heap H locs ∧ lv_has ls 6 [(0, .ref (mh G)), (1, .int x), (2, .long L), (4, .int (nI n))] ∧ g = F0 m 26 ls []) ?_ ?_ 9 _ _ _ _ _ ⟨o_32, F_33, (lput 400 L9 (b8 45)), f_29, 0, ls, by omega, b_35g, b_35c, (b_35q.mono (by decide)), (by rw [ef_29, ef_28, Nat.pow_zero, Nat.div_one]; exact neg_rest (Int32.not_le.mp c_1)), (fun q h => absurd h (Nat.not_lt_zero _)), (Or.inl rfl), (figs_n2 (Int32.not_le.mp c_1)), rfl, rfl, hP, hS, lv_sub hl [2, 3, 1, 0] rfl, rfl⟩
    · intro H locs k sl g hI
      obtain ⟨o1, F1, L1, L, n, ls, hp0, hp1, hp2, hp3, hp4, hp5, hp6, hp7, rfl, rfl, hP, hS, hl, rfl⟩ := hI
      have hm31 : mag x / 10 ^ n ≤ 2 ^ 31 := Nat.le_trans (Nat.div_le_self _ _) mag_le
      have hn9 : n ≤ 9 := by omega
      refine lv_aload_n hx hb dX8_outNumber_26 rfl (lv_at hl 0 rfl) ?_
      refine m_get (v := .ref (md G 50)) hx hb htu wu_in hown hK hP 50 (by decide) (htu _ U_207) rfl rfl dX8_outNumber_27 ?_
      refine lv_iload hx hb dX8_outNumber_30 (lv_at hl 3 rfl) ?_
      refine lv_lload_n hx hb dX8_outNumber_32 rfl (lv_at hl 2 rfl) ?_
      refine lv_ldc2 (v := 10) hx hb hown (htu _ U_208) dX8_outNumber_33 ?_
      refine lv_lrem hx hb dX8_outNumber_36 (by decide) ?_
      refine lv_topl (fun f_36 ef_36 => ?_)
      refine lv_l2i hx hb dX8_outNumber_37 (v := _) rfl ?_
      refine lv_topi (fun f_37 ef_37 => ?_)
      have hfg : f_37 = nI (mag x / 10 ^ n % 10) := ef_37.trans (by rw [ef_36, rem_at hp4 hm31]; exact i32_of _ (Nat.mod_lt _ (by decide)))
      refine m_ast (j := n) (x := f_37) hx hb hK hP hDD hS 30 50 rfl (by omega) (by decide) (mW_a50 _ _ _ _ _) dX8_outNumber_38 (fun H locs hP hS => ?_)
      refine lv_iinc (v := nI (n + 1)) (lv' := [(4, .int (nI (n + 1))), (0, .ref (mh G)), (1, .int x), (2, .long L)]) hx hb dX8_outNumber_39 hl (k := 3) rfl (nI_1 n) (by decide) rfl (fun ls hl => ?_)
      refine lv_lload_n hx hb dX8_outNumber_42 rfl (lv_at hl 3 rfl) ?_
      refine lv_ldc2 (v := 10) hx hb hown (htu _ U_208) dX8_outNumber_43 ?_
      refine lv_ldiv hx hb dX8_outNumber_46 (by decide) ?_
      refine lv_topl (fun f_38 ef_38 => ?_)
      refine lv_lstore_n (lv' := [(2, .long f_38), (4, .int (nI (n + 1))), (0, .ref (mh G)), (1, .int x)]) hx hb dX8_outNumber_47 rfl hl (by decide) rfl (fun ls hl => ?_)
      refine lv_lload_n hx hb dX8_outNumber_48 rfl (lv_at hl 0 rfl) ?_
      refine lv_lconst (v := 0) hx hb dX8_outNumber_49 (by decide) ?_
      refine W.lcmp hx hb dX8_outNumber_50 ?_
      refine lv_topi (fun f_39 ef_39 => ?_)
      refine lv_if_gt (tgt := 26) hx hb dX8_outNumber_51 (by decide) (fun c_40 => absurd c_40 (fun h9 => by rw [ef_39] at h9; have h8 := lcmp_g.mp h9; rw [ef_38, quo_at hp4 hm31] at h8; have hn9 : n = 9 := (by omega); rw [hn9] at h8; have h7 := mag_le (y := x); omega)) (fun c_40 => ?_)
      refine lv_iload hx hb dX8_outNumber_54 (lv_at hl 1 rfl) ?_
      refine lv_iconst (v := 1) hx hb dX8_outNumber_56 (by decide) ?_
      refine lv_isub hx hb dX8_outNumber_57 ?_
      refine m_top (y := (nI (n + 1)) - 1) rfl ?_
      refine lv_istore (lv' := [(5, .int ((nI (n + 1)) - 1)), (2, .long f_38), (4, .int (nI (n + 1))), (0, .ref (mh G)), (1, .int x)]) hx hb dX8_outNumber_58 hl (by decide) rfl (fun ls hl => ?_)
      have hc10 : mag x < 10 ^ (n + 1) := by
        have h7 := mag_le (y := x)
        have hn : n = 9 := by omega
        rw [hn]
        omega
      have hT : lputs 400 L1 (dgs (mag x) (n + 1)) = lputs 400 L9 (figs x) := by rw [← hp7, fd_dgs hn9 hc10 hp6]
      refine w_loop (fun j H locs k sl g => ∃ (o2 : Nat → Int32) (F2 : Nat → Nat → Int32) (Lq : List Int32) (yv : Int32) (ls : Array Slot), yv = nI j - 1 ∧ MG9 o2 F2 Lq ∧ Lq.length ≤ 400 ∧ Kq LTn o F (o2, F2) ∧ j ≤ n + 1 ∧ (∀ q, q < n + 1 → F2 50 q = nI (mag x / 10 ^ q % 10)) ∧ lputs 400 Lq (dgs (mag x) j) = lputs 400 L9 (figs x) ∧ k = 0 ∧ sl = 0 ∧ mP G o2 F2 H ∧ va_S (mA G s.heap.size) s.heap H locs ∧ lv_has ls 6 [(0, .ref (mh G)), (1, .int x), (2, .long f_38), (4, .int (nI (n + 1))), (5, .int yv)] ∧ g = F0 m 60 ls []) ?_ ?_ (n + 1) _ _ _ _ _ ⟨o1, fput F1 50 n f_37, L1, (nI (n + 1) - 1), ls, rfl, (hp1.keep rfl rfl), hp2, (hp3.F (by decide)), (by omega), (fig_cell hfg hp5), hT, rfl, rfl, hP, hS, lv_sub hl [3, 4, 1, 2, 0] rfl, rfl⟩
      · intro H locs k sl g hI
        obtain ⟨o2, F2, Lq, yv, ls, hq0, hq1, hq2, hq3, hq4, hq5, hq6, rfl, rfl, hP, hS, hl, rfl⟩ := hI
        have hy : yv = -1 := hq0
        refine lv_iload hx hb dX8_outNumber_60 (lv_at hl 4 rfl) ?_
        refine lv_if_lt (tgt := 85) hx hb dX8_outNumber_62 (by decide) (fun c_41 => ?_) (fun c_41 => absurd (by rw [hy]; decide) c_41)
        exact m_vret hx hb hr hK hP hS ⟨hq6 ▸ hq1, hq3⟩ dX8_outNumber_85 hlocks
      · intro j ih9 H locs k sl g hI
        obtain ⟨o2, F2, Lq, yv, ls, hq0, hq1, hq2, hq3, hq4, hq5, hq6, rfl, rfl, hP, hS, hl, rfl⟩ := hI
        have hy : yv = nI j := hq0.trans (nI_pred j)
        subst hy
        have h48c : o2 48 = nI 400 := (hq3 48 (by decide)).1.trans h48
        refine lv_iload hx hb dX8_outNumber_60 (lv_at hl 4 rfl) ?_
        refine lv_if_lt (tgt := 85) hx hb dX8_outNumber_62 (by decide) (fun c_42 => absurd c_42 (nI_n0 (by omega))) (fun c_42 => ?_)
        refine lv_aload_n hx hb dX8_outNumber_65 rfl (lv_at hl 0 rfl) ?_
        refine lv_bipush (v := 48) hx hb dX8_outNumber_66 (by decide) ?_
        refine lv_aload_n hx hb dX8_outNumber_68 rfl (lv_at hl 0 rfl) ?_
        refine m_get (v := .ref (md G 50)) hx hb htu wu_in hown hK hP 50 (by decide) (htu _ U_207) rfl rfl dX8_outNumber_69 ?_
        refine lv_iload hx hb dX8_outNumber_72 (lv_at hl 4 rfl) ?_
        refine m_ald (j := j) (v := nI (mag x / 10 ^ j % 10)) hx hb hK hP 30 50 rfl (by omega) (by decide) (hq5 j (by omega)) dX8_outNumber_74 ?_
        refine lv_iadd hx hb dX8_outNumber_75 ?_
        refine m_top (y := nI (48 + (mag x / 10 ^ j % 10))) (nI_add 48 (mag x / 10 ^ j % 10)) ?_
        refine m_cv (m_runV (As := [.int (nI (48 + (mag x / 10 ^ j % 10)))]) (rest := []) ⟨hx, hb, hml, hown, htu⟩ (m_out l G hDD o2 F2 ((Lq).length) 400 (nI (48 + (mag x / 10 ^ j % 10))) hq1.1 h48c ((by decide)) hq2 H.size) (cwV 1 htu gU_X8_out rfl rfl rfl (by decide +kernel) ⟨Nat.le_of_ble_eq_true rfl, Nat.le_of_ble_eq_true rfl⟩) hP hK rfl hl.1 rfl (lv_room (Nat.le_of_ble_eq_true rfl)) dX8_outNumber_76) hS (fun o_44 F_45 H locs hw_46 hP hS => ?_)
        try dsimp only at hw_46
        obtain ⟨b_47g, b_47q⟩ := MG9.out4 hq1 hw_46
        have b_47c := (lput_len (cap := 400) (b := b8 (nI (48 + (mag x / 10 ^ j % 10)))) hq2).1
        refine lv_iinc (v := nI j - 1) (lv' := [(5, .int (nI j - 1)), (0, .ref (mh G)), (1, .int x), (2, .long f_38), (4, .int (nI (n + 1)))]) hx hb dX8_outNumber_79 hl (k := 4) rfl (by rw [Int32.sub_eq_add_neg]; rfl) (by decide) rfl (fun ls hl => ?_)
        refine lv_goto (tgt := 60) hx hb dX8_outNumber_82 (by decide) ?_
        have b_47o : F_45 50 = F2 50 := (b_47q 50 (by decide)).2
        exact ih9 _ _ _ _ _ ⟨o_44, F_45, (lput 400 Lq (b8 (nI (48 + (mag x / 10 ^ j % 10))))), (nI j - 1), ls, rfl, b_47g, b_47c, (hq3.tr (b_47q.mono (by decide))), (by omega), (fun q hq => by rw [(b_47o)]; exact hq5 q hq), hq6, rfl, rfl, hP, hS, lv_sub hl [1, 2, 3, 4, 0] rfl, rfl⟩
    · intro j ih9 H locs k sl g hI
      obtain ⟨o1, F1, L1, L, n, ls, hp0, hp1, hp2, hp3, hp4, hp5, hp6, hp7, rfl, rfl, hP, hS, hl, rfl⟩ := hI
      have hm31 : mag x / 10 ^ n ≤ 2 ^ 31 := Nat.le_trans (Nat.div_le_self _ _) mag_le
      have hn9 : n ≤ 9 := by omega
      refine lv_aload_n hx hb dX8_outNumber_26 rfl (lv_at hl 0 rfl) ?_
      refine m_get (v := .ref (md G 50)) hx hb htu wu_in hown hK hP 50 (by decide) (htu _ U_207) rfl rfl dX8_outNumber_27 ?_
      refine lv_iload hx hb dX8_outNumber_30 (lv_at hl 3 rfl) ?_
      refine lv_lload_n hx hb dX8_outNumber_32 rfl (lv_at hl 2 rfl) ?_
      refine lv_ldc2 (v := 10) hx hb hown (htu _ U_208) dX8_outNumber_33 ?_
      refine lv_lrem hx hb dX8_outNumber_36 (by decide) ?_
      refine lv_topl (fun f_48 ef_48 => ?_)
      refine lv_l2i hx hb dX8_outNumber_37 (v := _) rfl ?_
      refine lv_topi (fun f_49 ef_49 => ?_)
      have hfg : f_49 = nI (mag x / 10 ^ n % 10) := ef_49.trans (by rw [ef_48, rem_at hp4 hm31]; exact i32_of _ (Nat.mod_lt _ (by decide)))
      refine m_ast (j := n) (x := f_49) hx hb hK hP hDD hS 30 50 rfl (by omega) (by decide) (mW_a50 _ _ _ _ _) dX8_outNumber_38 (fun H locs hP hS => ?_)
      refine lv_iinc (v := nI (n + 1)) (lv' := [(4, .int (nI (n + 1))), (0, .ref (mh G)), (1, .int x), (2, .long L)]) hx hb dX8_outNumber_39 hl (k := 3) rfl (nI_1 n) (by decide) rfl (fun ls hl => ?_)
      refine lv_lload_n hx hb dX8_outNumber_42 rfl (lv_at hl 3 rfl) ?_
      refine lv_ldc2 (v := 10) hx hb hown (htu _ U_208) dX8_outNumber_43 ?_
      refine lv_ldiv hx hb dX8_outNumber_46 (by decide) ?_
      refine lv_topl (fun f_50 ef_50 => ?_)
      refine lv_lstore_n (lv' := [(2, .long f_50), (4, .int (nI (n + 1))), (0, .ref (mh G)), (1, .int x)]) hx hb dX8_outNumber_47 rfl hl (by decide) rfl (fun ls hl => ?_)
      refine lv_lload_n hx hb dX8_outNumber_48 rfl (lv_at hl 0 rfl) ?_
      refine lv_lconst (v := 0) hx hb dX8_outNumber_49 (by decide) ?_
      refine W.lcmp hx hb dX8_outNumber_50 ?_
      refine lv_topi (fun f_51 ef_51 => ?_)
      refine lv_if_gt (tgt := 26) hx hb dX8_outNumber_51 (by decide) (fun c_52 => ?_) (fun c_52 => ?_)
      · skip
        exact ih9 _ _ _ _ _ ⟨o1, (fput F1 50 n f_49), L1, f_50, n + 1, ls, by omega, (hp1.keep rfl rfl), hp2, hp3.F (by decide), (by rw [ef_50, quo_at hp4 hm31, Nat.div_div_eq_div_mul, ← Nat.pow_succ]), (fig_cell hfg hp5), (Or.inr (by rw [Nat.pow_succ, ← Nat.div_div_eq_div_mul]; have h8 := lcmp_g.mp (ef_51 ▸ c_52); rw [ef_50, quo_at hp4 hm31] at h8; omega)), hp7, rfl, rfl, hP, hS, lv_sub hl [2, 3, 0, 1] rfl, rfl⟩
      · skip
        refine lv_iload hx hb dX8_outNumber_54 (lv_at hl 1 rfl) ?_
        refine lv_iconst (v := 1) hx hb dX8_outNumber_56 (by decide) ?_
        refine lv_isub hx hb dX8_outNumber_57 ?_
        refine m_top (y := (nI (n + 1)) - 1) rfl ?_
        refine lv_istore (lv' := [(5, .int ((nI (n + 1)) - 1)), (2, .long f_50), (4, .int (nI (n + 1))), (0, .ref (mh G)), (1, .int x)]) hx hb dX8_outNumber_58 hl (by decide) rfl (fun ls hl => ?_)
        have hc10 : mag x < 10 ^ (n + 1) := by
          have h7 := mag_le (y := x)
          have h8 : ¬ 0 < (f_50).toInt := fun z => c_52 (by rw [ef_51]; exact lcmp_g.mpr z)
          rw [ef_50, quo_at hp4 hm31] at h8
          have h9 : mag x / 10 ^ n / 10 = 0 := by generalize mag x / 10 ^ n / 10 = w9 at h8 ⊢; omega
          rw [Nat.div_div_eq_div_mul, ← Nat.pow_succ] at h9
          exact Nat.lt_of_div_eq_zero (Nat.pow_pos (by decide)) h9
        have hT : lputs 400 L1 (dgs (mag x) (n + 1)) = lputs 400 L9 (figs x) := by rw [← hp7, fd_dgs hn9 hc10 hp6]
        refine w_loop (fun j H locs k sl g => ∃ (o2 : Nat → Int32) (F2 : Nat → Nat → Int32) (Lq : List Int32) (yv : Int32) (ls : Array Slot), yv = nI j - 1 ∧ MG9 o2 F2 Lq ∧ Lq.length ≤ 400 ∧ Kq LTn o F (o2, F2) ∧ j ≤ n + 1 ∧ (∀ q, q < n + 1 → F2 50 q = nI (mag x / 10 ^ q % 10)) ∧ lputs 400 Lq (dgs (mag x) j) = lputs 400 L9 (figs x) ∧ k = 0 ∧ sl = 0 ∧ mP G o2 F2 H ∧ va_S (mA G s.heap.size) s.heap H locs ∧ lv_has ls 6 [(0, .ref (mh G)), (1, .int x), (2, .long f_50), (4, .int (nI (n + 1))), (5, .int yv)] ∧ g = F0 m 60 ls []) ?_ ?_ (n + 1) _ _ _ _ _ ⟨o1, fput F1 50 n f_49, L1, (nI (n + 1) - 1), ls, rfl, (hp1.keep rfl rfl), hp2, (hp3.F (by decide)), (by omega), (fig_cell hfg hp5), hT, rfl, rfl, hP, hS, lv_sub hl [3, 4, 1, 2, 0] rfl, rfl⟩
        · intro H locs k sl g hI
          obtain ⟨o2, F2, Lq, yv, ls, hq0, hq1, hq2, hq3, hq4, hq5, hq6, rfl, rfl, hP, hS, hl, rfl⟩ := hI
          have hy : yv = -1 := hq0
          refine lv_iload hx hb dX8_outNumber_60 (lv_at hl 4 rfl) ?_
          refine lv_if_lt (tgt := 85) hx hb dX8_outNumber_62 (by decide) (fun c_53 => ?_) (fun c_53 => absurd (by rw [hy]; decide) c_53)
          exact m_vret hx hb hr hK hP hS ⟨hq6 ▸ hq1, hq3⟩ dX8_outNumber_85 hlocks
        · intro j ih9 H locs k sl g hI
          obtain ⟨o2, F2, Lq, yv, ls, hq0, hq1, hq2, hq3, hq4, hq5, hq6, rfl, rfl, hP, hS, hl, rfl⟩ := hI
          have hy : yv = nI j := hq0.trans (nI_pred j)
          subst hy
          have h48c : o2 48 = nI 400 := (hq3 48 (by decide)).1.trans h48
          refine lv_iload hx hb dX8_outNumber_60 (lv_at hl 4 rfl) ?_
          refine lv_if_lt (tgt := 85) hx hb dX8_outNumber_62 (by decide) (fun c_54 => absurd c_54 (nI_n0 (by omega))) (fun c_54 => ?_)
          refine lv_aload_n hx hb dX8_outNumber_65 rfl (lv_at hl 0 rfl) ?_
          refine lv_bipush (v := 48) hx hb dX8_outNumber_66 (by decide) ?_
          refine lv_aload_n hx hb dX8_outNumber_68 rfl (lv_at hl 0 rfl) ?_
          refine m_get (v := .ref (md G 50)) hx hb htu wu_in hown hK hP 50 (by decide) (htu _ U_207) rfl rfl dX8_outNumber_69 ?_
          refine lv_iload hx hb dX8_outNumber_72 (lv_at hl 4 rfl) ?_
          refine m_ald (j := j) (v := nI (mag x / 10 ^ j % 10)) hx hb hK hP 30 50 rfl (by omega) (by decide) (hq5 j (by omega)) dX8_outNumber_74 ?_
          refine lv_iadd hx hb dX8_outNumber_75 ?_
          refine m_top (y := nI (48 + (mag x / 10 ^ j % 10))) (nI_add 48 (mag x / 10 ^ j % 10)) ?_
          refine m_cv (m_runV (As := [.int (nI (48 + (mag x / 10 ^ j % 10)))]) (rest := []) ⟨hx, hb, hml, hown, htu⟩ (m_out l G hDD o2 F2 ((Lq).length) 400 (nI (48 + (mag x / 10 ^ j % 10))) hq1.1 h48c ((by decide)) hq2 H.size) (cwV 1 htu gU_X8_out rfl rfl rfl (by decide +kernel) ⟨Nat.le_of_ble_eq_true rfl, Nat.le_of_ble_eq_true rfl⟩) hP hK rfl hl.1 rfl (lv_room (Nat.le_of_ble_eq_true rfl)) dX8_outNumber_76) hS (fun o_56 F_57 H locs hw_58 hP hS => ?_)
          try dsimp only at hw_58
          obtain ⟨b_59g, b_59q⟩ := MG9.out4 hq1 hw_58
          have b_59c := (lput_len (cap := 400) (b := b8 (nI (48 + (mag x / 10 ^ j % 10)))) hq2).1
          refine lv_iinc (v := nI j - 1) (lv' := [(5, .int (nI j - 1)), (0, .ref (mh G)), (1, .int x), (2, .long f_50), (4, .int (nI (n + 1)))]) hx hb dX8_outNumber_79 hl (k := 4) rfl (by rw [Int32.sub_eq_add_neg]; rfl) (by decide) rfl (fun ls hl => ?_)
          refine lv_goto (tgt := 60) hx hb dX8_outNumber_82 (by decide) ?_
          have b_59o : F_57 50 = F2 50 := (b_59q 50 (by decide)).2
          exact ih9 _ _ _ _ _ ⟨o_56, F_57, (lput 400 Lq (b8 (nI (48 + (mag x / 10 ^ j % 10))))), (nI j - 1), ls, rfl, b_59g, b_59c, (hq3.tr (b_59q.mono (by decide))), (by omega), (fun q hq => by rw [(b_59o)]; exact hq5 q hq), hq6, rfl, rfl, hP, hS, lv_sub hl [1, 2, 3, 4, 0] rfl, rfl⟩

