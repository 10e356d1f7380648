/-! ===== the second program before the first type() ===== -/

set_option maxHeartbeats 4000000 in
set_option maxRecDepth 100000 in
/-- sign, nothing typed -/
theorem m_sign0 (l : Launch) (G : mG) (hDD : mDD G) (o : Nat → Int32) (F : Nat → Nat → Int32) (y : Int32) (h22 : o 22 = 0) (sz : Nat) : Met l yX8_sign (wU yX8_sign cX8_sign 2 (some .int)) { frames := 0, cells := 0, slots := 0, locals := 0 } (mPc G o F sz [.ref (mh G), .int y]) (mQi G sz (fun r u => u = (o, F))) 0 0 (mA G sz) := by
  refine Met.ofW (cc := cX8_sign) (maxL := 2) (ret := (some .int)) (by decide) rfl ?_
  intro p e s m args below meth c s₁ B hml hv
  obtain ⟨rfl, hsz, hP, hK⟩ := hv
  have hx := B.exec
  have hb := B.bytes
  have hr := B.returns
  have htu : ∀ w ∈ WU, w.before _ s = true := fun w h => atoms_spec (ws := (wU yX8_sign cX8_sign 2 (some .int))) B.pre w (List.mem_cons_of_mem _ h)
  have hown : s.vm.findClass RX8 = some m.cls := findClass_of_methodNamed B.named
  have hlocks := B.notSynchronized
  subst hsz
  have hS : va_S (mA G s.heap.size) s.heap s.heap [] := va_S.rf
  have hl := lv_entry ([.ref (mh G), .int y]) (n := 2) (Nat.le_of_ble_eq_true rfl)
  rw [lg_entry_eq]
  generalize (lg_sl ([.ref (mh G), .int y]) ++ List.replicate (2 - (lg_sl ([.ref (mh G), .int y])).length) Slot.unset).toArray = ls at hl ⊢
  have hl : lv_has ls 2 [(0, .ref (mh G)), (1, .int y)] := hl
  obtain ⟨H, hHe⟩ : ∃ H : Heap, H = s.heap := ⟨_, rfl⟩
  rw [← hHe] at hP
  have hS : va_S (mA G s.heap.size) s.heap H [] := by rw [hHe]; exact va_S.rf
  refine W.heq hHe ?_
  refine lv_aload_n hx hb dX8_sign_0 rfl (lv_at hl 0 rfl) ?_
  refine m_get (v := .int 0) hx hb htu wu_in hown hK hP 22 (by decide) (htu _ U_42) rfl (m_v h22) dX8_sign_1 ?_
  refine lv_if_eq (tgt := 20) hx hb dX8_sign_4 (by decide) (fun c_1 => ?_) (fun c_1 => absurd (by decide) c_1)
  refine lv_bipush (v := (-4)) hx hb dX8_sign_20 (by decide) ?_
  exact m_iret (v := (-4)) hx hb hr hK hP hS rfl dX8_sign_22 hlocks

set_option maxHeartbeats 4000000 in
set_option maxRecDepth 100000 in
/-- bound, none -/
theorem m_bound0 (l : Launch) (G : mG) (hDD : mDD G) (o : Nat → Int32) (F : Nat → Nat → Int32) (x : Int32) (ab : Int32) (iv : Int32) (y : Int32) (h14 : o 14 = nI 0) (sz : Nat) : Met l yX8_bound (wU yX8_bound cX8_bound 8 (some .int)) { frames := 2, cells := 0, slots := 0, locals := 43 } (mPc G o F sz [.ref (mh G), .int x, .int ab, .int iv, .int y]) (mQi G sz (fun r u => u = (o, F))) 0 0 (mA G sz) := by
  refine Met.ofW (cc := cX8_bound) (maxL := 8) (ret := (some .int)) (by decide) rfl ?_
  intro p e s m args below meth c s₁ B hml hv
  obtain ⟨rfl, hsz, hP, hK⟩ := hv
  have hx := B.exec
  have hb := B.bytes
  have hr := B.returns
  have htu : ∀ w ∈ WU, w.before _ s = true := fun w h => atoms_spec (ws := (wU yX8_bound cX8_bound 8 (some .int))) B.pre w (List.mem_cons_of_mem _ h)
  have hown : s.vm.findClass RX8 = some m.cls := findClass_of_methodNamed B.named
  have hlocks := B.notSynchronized
  subst hsz
  have hS : va_S (mA G s.heap.size) s.heap s.heap [] := va_S.rf
  have hl := lv_entry ([.ref (mh G), .int x, .int ab, .int iv, .int y]) (n := 8) (Nat.le_of_ble_eq_true rfl)
  rw [lg_entry_eq]
  generalize (lg_sl ([.ref (mh G), .int x, .int ab, .int iv, .int y]) ++ List.replicate (8 - (lg_sl ([.ref (mh G), .int x, .int ab, .int iv, .int y])).length) Slot.unset).toArray = ls at hl ⊢
  have hl : lv_has ls 8 [(0, .ref (mh G)), (1, .int x), (2, .int ab), (3, .int iv), (4, .int y)] := hl
  obtain ⟨H, hHe⟩ : ∃ H : Heap, H = s.heap := ⟨_, rfl⟩
  rw [← hHe] at hP
  have hS : va_S (mA G s.heap.size) s.heap H [] := by rw [hHe]; exact va_S.rf
  refine W.heq hHe ?_
  refine lv_aload_n hx hb dX8_bound_0 rfl (lv_at hl 0 rfl) ?_
  refine lv_iload_n hx hb dX8_bound_1 rfl (lv_at hl 1 rfl) ?_
  refine m_ci (m_runV (As := [.int x]) (rest := []) ⟨hx, hb, hml, hown, htu⟩ (m_isVariable l G hDD o F 0 x h14 ((by decide)) H.size) (cwV 1 htu gU_X8_isVariable rfl rfl rfl (by decide +kernel) ⟨Nat.le_of_ble_eq_true rfl, Nat.le_of_ble_eq_true rfl⟩) hP hK rfl hl.1 rfl (lv_room (Nat.le_of_ble_eq_true rfl)) dX8_bound_2) hS (fun r_1 o_2 F_3 H locs hw_4 hP hS => ?_)
  try dsimp only at hw_4
  obtain ⟨hu, hc⟩ := hw_4
  obtain ⟨h91, h92⟩ := Prod.mk.inj hu
  have h91 := h91.symm
  subst h91
  have h92 := h92.symm
  subst h92
  rcases hc with ⟨g1, q, g2, g3⟩ | ⟨g1, g2⟩
  · exact absurd g2 (Nat.not_lt_zero _)
  · skip
    subst g1
    refine lv_if_ne (tgt := 10) hx hb dX8_bound_5 (by decide) (fun c_5 => absurd (by decide) c_5) (fun c_5 => ?_)
    refine lv_iconst (v := (-1)) hx hb dX8_bound_8 (by decide) ?_
    exact m_iret (v := (-1)) hx hb hr hK hP hS rfl dX8_bound_9 hlocks

set_option maxHeartbeats 4000000 in
set_option maxRecDepth 100000 in
/-- digest, no variables -/
theorem m_digest0 (l : Launch) (G : mG) (hDD : mDD G) (o : Nat → Int32) (F : Nat → Nat → Int32) (N : Nat) (h0N : o 0 = nI N) (hN : N ≤ 120) (h14 : o 14 = 0) (sz : Nat) : Met l yX8_digest (wU yX8_digest cX8_digest 5 (some .long)) { frames := 3, cells := 0, slots := 0, locals := 65 } (mPc G o F sz [.ref (mh G)]) (mQl G sz (fun r u => u = (o, F))) 0 0 (mA G sz) := by
  refine Met.ofW (cc := cX8_digest) (maxL := 5) (ret := (some .long)) (by decide) rfl ?_
  intro p e s m args below meth c s₁ B hml hv
  obtain ⟨rfl, hsz, hP, hK⟩ := hv
  have hx := B.exec
  have hb := B.bytes
  have hr := B.returns
  have htu : ∀ w ∈ WU, w.before _ s = true := fun w h => atoms_spec (ws := (wU yX8_digest cX8_digest 5 (some .long))) B.pre w (List.mem_cons_of_mem _ h)
  have hown : s.vm.findClass RX8 = some m.cls := findClass_of_methodNamed B.named
  have hlocks := B.notSynchronized
  subst hsz
  have hS : va_S (mA G s.heap.size) s.heap s.heap [] := va_S.rf
  have hl := lv_entry ([.ref (mh G)]) (n := 5) (Nat.le_of_ble_eq_true rfl)
  rw [lg_entry_eq]
  generalize (lg_sl ([.ref (mh G)]) ++ List.replicate (5 - (lg_sl ([.ref (mh G)])).length) Slot.unset).toArray = ls at hl ⊢
  have hl : lv_has ls 5 [(0, .ref (mh G))] := hl
  obtain ⟨H, hHe⟩ : ∃ H : Heap, H = s.heap := ⟨_, rfl⟩
  rw [← hHe] at hP
  have hS : va_S (mA G s.heap.size) s.heap H [] := by rw [hHe]; exact va_S.rf
  refine W.heq hHe ?_
  refine lv_ldc2 (v := 17) hx hb hown (htu _ U_266) dX8_digest_0 ?_
  refine lv_lstore_n (lv' := [(1, .long 17), (0, .ref (mh G))]) hx hb dX8_digest_3 rfl hl (by decide) rfl (fun ls hl => ?_)
  refine lv_iconst (v := 0) hx hb dX8_digest_4 (by decide) ?_
  refine lv_istore_n (lv' := [(3, .int 0), (1, .long 17), (0, .ref (mh G))]) hx hb dX8_digest_5 rfl hl (by decide) rfl (fun ls hl => ?_)
  refine w_loop (fun j H locs k sl g => ∃ (hh : Int64) (i : Nat) (ls : Array Slot), i + j = N ∧ k = 0 ∧ sl = 0 ∧ mP G o F H ∧ va_S (mA G s.heap.size) s.heap H locs ∧ lv_has ls 5 [(0, .ref (mh G)), (1, .long hh), (3, .int (nI i))] ∧ g = F0 m 6 ls []) ?_ ?_ N _ _ _ _ _ ⟨17, 0, ls, by omega, rfl, rfl, hP, hS, lv_sub hl [2, 1, 0] rfl, rfl⟩
  · intro H locs k sl g hI
    obtain ⟨hh, i, ls, hp0, rfl, rfl, hP, hS, hl, rfl⟩ := hI
    refine lv_iload_n hx hb dX8_digest_6 rfl (lv_at hl 2 rfl) ?_
    refine lv_aload_n hx hb dX8_digest_7 rfl (lv_at hl 0 rfl) ?_
    refine m_get (v := .int (nI N)) hx hb htu wu_in hown hK hP 0 (by decide) (htu _ U_1) rfl (m_v h0N) dX8_digest_8 ?_
    refine lv_icmp_ge (tgt := 51) hx hb dX8_digest_11 (by decide) (fun c_1 => ?_) (fun c_1 => absurd (nI_le (by omega) (by omega)) c_1)
    refine lv_iconst (v := 0) hx hb dX8_digest_51 (by decide) ?_
    refine lv_istore_n (lv' := [(3, .int 0), (0, .ref (mh G)), (1, .long hh)]) hx hb dX8_digest_52 rfl hl (by decide) rfl (fun ls hl => ?_)
    refine lv_iload_n hx hb dX8_digest_53 rfl (lv_at hl 0 rfl) ?_
    refine lv_aload_n hx hb dX8_digest_54 rfl (lv_at hl 1 rfl) ?_
    refine m_get (v := .int 0) hx hb htu wu_in hown hK hP 14 (by decide) (htu _ U_40) rfl (m_v h14) dX8_digest_55 ?_
    refine lv_icmp_ge (tgt := 97) hx hb dX8_digest_58 (by decide) (fun c_2 => ?_) (fun c_2 => absurd (by decide) c_2)
    refine lv_lload_n hx hb dX8_digest_97 rfl (lv_at hl 2 rfl) ?_
    exact m_lret (v := hh) hx hb hr hK hP hS rfl dX8_digest_98 hlocks
  · intro j ih9 H locs k sl g hI
    obtain ⟨hh, i, ls, hp0, rfl, rfl, hP, hS, hl, rfl⟩ := hI
    refine lv_iload_n hx hb dX8_digest_6 rfl (lv_at hl 2 rfl) ?_
    refine lv_aload_n hx hb dX8_digest_7 rfl (lv_at hl 0 rfl) ?_
    refine m_get (v := .int (nI N)) hx hb htu wu_in hown hK hP 0 (by decide) (htu _ U_1) rfl (m_v h0N) dX8_digest_8 ?_
    refine lv_icmp_ge (tgt := 51) hx hb dX8_digest_11 (by decide) (fun c_3 => absurd c_3 (nI_ge (by omega) (by omega))) (fun c_3 => ?_)
    refine lv_iconst (v := 0) hx hb dX8_digest_14 (by decide) ?_
    refine lv_istore (lv' := [(4, .int 0), (0, .ref (mh G)), (1, .long hh), (3, .int (nI i))]) hx hb dX8_digest_15 hl (by decide) rfl (fun ls hl => ?_)
    refine w_loop (fun j H locs k sl g => ∃ (h2 : Int64) (k9 : Nat) (ls : Array Slot), k9 + j = 16 ∧ k = 0 ∧ sl = 0 ∧ mP G o F H ∧ va_S (mA G s.heap.size) s.heap H locs ∧ lv_has ls 5 [(0, .ref (mh G)), (1, .long h2), (3, .int (nI i)), (4, .int (nI k9))] ∧ g = F0 m 17 ls []) ?_ ?_ 16 _ _ _ _ _ ⟨hh, 0, ls, by omega, rfl, rfl, hP, hS, lv_sub hl [1, 2, 3, 0] rfl, rfl⟩
    · intro H locs k sl g hI
      obtain ⟨h2, k9, ls, hr0, rfl, rfl, hP, hS, hl, rfl⟩ := hI
      refine lv_iload hx hb dX8_digest_17 (lv_at hl 3 rfl) ?_
      refine lv_bipush (v := 16) hx hb dX8_digest_19 (by decide) ?_
      refine lv_icmp_ge (tgt := 45) hx hb dX8_digest_21 (by decide) (fun c_4 => ?_) (fun c_4 => absurd (nI_le (a := 16) (by omega) (by omega)) c_4)
      refine lv_iinc (v := nI (i + 1)) (lv' := [(3, .int (nI (i + 1))), (0, .ref (mh G)), (1, .long h2), (4, .int (nI k9))]) hx hb dX8_digest_45 hl (k := 2) rfl (nI_1 i) (by decide) rfl (fun ls hl => ?_)
      refine lv_goto (tgt := 6) hx hb dX8_digest_48 (by decide) ?_
      exact ih9 _ _ _ _ _ ⟨h2, i + 1, ls, by omega, rfl, rfl, hP, hS, lv_sub hl [1, 2, 0] rfl, rfl⟩
    · intro j ih7 H locs k sl g hI
      obtain ⟨h2, k9, ls, hr0, rfl, rfl, hP, hS, hl, rfl⟩ := hI
      refine lv_iload hx hb dX8_digest_17 (lv_at hl 3 rfl) ?_
      refine lv_bipush (v := 16) hx hb dX8_digest_19 (by decide) ?_
      refine lv_icmp_ge (tgt := 45) hx hb dX8_digest_21 (by decide) (fun c_5 => absurd c_5 (nI_ge (b := 16) (by omega) (by omega))) (fun c_5 => ?_)
      refine lv_ldc2 (v := 31) hx hb hown (htu _ U_267) dX8_digest_24 ?_
      refine lv_lload_n hx hb dX8_digest_27 rfl (lv_at hl 1 rfl) ?_
      refine lv_lmul hx hb dX8_digest_28 ?_
      refine lv_topl (fun f_6 ef_6 => ?_)
      refine lv_aload_n hx hb dX8_digest_29 rfl (lv_at hl 0 rfl) ?_
      refine lv_iload_n hx hb dX8_digest_30 rfl (lv_at hl 2 rfl) ?_
      refine lv_iload hx hb dX8_digest_31 (lv_at hl 3 rfl) ?_
      refine m_ci (m_runV (As := [.int (nI i), .int (nI k9)]) (rest := [.long f_6]) ⟨hx, hb, hml, hown, htu⟩ (m_told l G hDD o F N (nI i) (nI k9) h0N hN H.size) (cwV 2 htu gU_X8_told rfl rfl rfl (by decide +kernel) ⟨Nat.le_of_ble_eq_true rfl, Nat.le_of_ble_eq_true rfl⟩) hP hK rfl hl.1 rfl (lv_room (Nat.le_of_ble_eq_true rfl)) dX8_digest_33) hS (fun r_7 o_8 F_9 H locs hw_10 hP hS => ?_)
      try dsimp only at hw_10
      obtain ⟨h91, h92⟩ := Prod.mk.inj hw_10.1
      have h91 := h91.symm
      subst h91
      have h92 := h92.symm
      subst h92
      refine lv_i2l hx hb dX8_digest_36 (v := _) rfl ?_
      refine lv_topl (fun f_11 ef_11 => ?_)
      refine lv_ladd hx hb dX8_digest_37 ?_
      refine lv_topl (fun f_12 ef_12 => ?_)
      refine lv_lstore_n (lv' := [(1, .long f_12), (0, .ref (mh G)), (3, .int (nI i)), (4, .int (nI k9))]) hx hb dX8_digest_38 rfl hl (by decide) rfl (fun ls hl => ?_)
      refine lv_iinc (v := nI (k9 + 1)) (lv' := [(4, .int (nI (k9 + 1))), (1, .long f_12), (0, .ref (mh G)), (3, .int (nI i))]) hx hb dX8_digest_39 hl (k := 3) rfl (nI_1 k9) (by decide) rfl (fun ls hl => ?_)
      refine lv_goto (tgt := 17) hx hb dX8_digest_42 (by decide) ?_
      exact ih7 _ _ _ _ _ ⟨f_12, k9 + 1, ls, by omega, rfl, rfl, hP, hS, lv_sub hl [2, 1, 3, 0] rfl, rfl⟩

