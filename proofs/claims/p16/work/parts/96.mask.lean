theorem dX8_isVariable_0 : decode cX8_isVariable 0 = .ok (.iload_n 1, 1) := by decide +kernel
theorem dX8_isVariable_1 : decode cX8_isVariable 1 = .ok (.iconst 0, 1) := by decide +kernel
theorem dX8_isVariable_2 : decode cX8_isVariable 2 = .ok (.aload_n 0, 1) := by decide +kernel
theorem dX8_isVariable_3 : decode cX8_isVariable 3 = .ok (.getfield 171, 3) := by decide +kernel
theorem dX8_isVariable_6 : decode cX8_isVariable 6 = .ok (.iconst 1, 1) := by decide +kernel
theorem dX8_isVariable_7 : decode cX8_isVariable 7 = .ok (.isub, 1) := by decide +kernel
theorem dX8_isVariable_8 : decode cX8_isVariable 8 = .ok (.invokestatic 140, 3) := by decide +kernel
theorem dX8_isVariable_11 : decode cX8_isVariable 11 = .ok (.ireturn, 1) := by decide +kernel
theorem dX8_variable_0 : decode cX8_variable 0 = .ok (.aload_n 0, 1) := by decide +kernel
theorem dX8_variable_1 : decode cX8_variable 1 = .ok (.iload_n 1, 1) := by decide +kernel
theorem dX8_variable_2 : decode cX8_variable 2 = .ok (.invokevirtual 322, 3) := by decide +kernel
theorem dX8_variable_5 : decode cX8_variable 5 = .ok (.ifCond .eq 12, 3) := by decide +kernel
theorem dX8_variable_8 : decode cX8_variable 8 = .ok (.iload_n 2, 1) := by decide +kernel
theorem dX8_variable_9 : decode cX8_variable 9 = .ok (.iconst 0, 1) := by decide +kernel
theorem dX8_variable_10 : decode cX8_variable 10 = .ok (.iconst 2, 1) := by decide +kernel
theorem dX8_variable_11 : decode cX8_variable 11 = .ok (.invokestatic 140, 3) := by decide +kernel
theorem dX8_variable_14 : decode cX8_variable 14 = .ok (.ifCond .ne 5, 3) := by decide +kernel
theorem dX8_variable_19 : decode cX8_variable 19 = .ok (.iload_n 2, 1) := by decide +kernel
theorem dX8_variable_20 : decode cX8_variable 20 = .ok (.ifCond .ne 17, 3) := by decide +kernel
theorem dX8_variable_37 : decode cX8_variable 37 = .ok (.aload_n 0, 1) := by decide +kernel
theorem dX8_variable_38 : decode cX8_variable 38 = .ok (.getfield 62, 3) := by decide +kernel
theorem dX8_variable_41 : decode cX8_variable 41 = .ok (.iconst 2, 1) := by decide +kernel
theorem dX8_variable_42 : decode cX8_variable 42 = .ok (.iload_n 1, 1) := by decide +kernel
theorem dX8_variable_43 : decode cX8_variable 43 = .ok (.imul, 1) := by decide +kernel
theorem dX8_variable_44 : decode cX8_variable 44 = .ok (.iload_n 2, 1) := by decide +kernel
theorem dX8_variable_45 : decode cX8_variable 45 = .ok (.iadd, 1) := by decide +kernel
theorem dX8_variable_46 : decode cX8_variable 46 = .ok (.iconst 1, 1) := by decide +kernel
theorem dX8_variable_47 : decode cX8_variable 47 = .ok (.isub, 1) := by decide +kernel
theorem dX8_variable_48 : decode cX8_variable 48 = .ok (.iaload, 1) := by decide +kernel
theorem dX8_variable_49 : decode cX8_variable 49 = .ok (.ireturn, 1) := by decide +kernel
theorem dX8_variable_23 : decode cX8_variable 23 = .ok (.aload_n 0, 1) := by decide +kernel
theorem dX8_variable_24 : decode cX8_variable 24 = .ok (.getfield 31, 3) := by decide +kernel
theorem dX8_variable_27 : decode cX8_variable 27 = .ok (.aload_n 0, 1) := by decide +kernel
theorem dX8_variable_28 : decode cX8_variable 28 = .ok (.getfield 46, 3) := by decide +kernel
theorem dX8_variable_31 : decode cX8_variable 31 = .ok (.iload_n 1, 1) := by decide +kernel
theorem dX8_variable_32 : decode cX8_variable 32 = .ok (.iaload, 1) := by decide +kernel
theorem dX8_variable_33 : decode cX8_variable 33 = .ok (.iaload, 1) := by decide +kernel
theorem dX8_variable_34 : decode cX8_variable 34 = .ok (.goto 15, 3) := by decide +kernel
theorem dX8_variable_17 : decode cX8_variable 17 = .ok (.iconst (-1), 1) := by decide +kernel
theorem dX8_variable_18 : decode cX8_variable 18 = .ok (.ireturn, 1) := by decide +kernel
set_option maxHeartbeats 4000000 in
set_option maxRecDepth 100000 in
/-- isVariable -/
theorem m_isVariable (l : Launch) (G : mG) (hDD : mDD G) (o : Nat → Int32) (F : Nat → Nat → Int32) (N : Nat) (x : Int32) (h0N : o 14 = nI N) (hN : N ≤ 150) (sz : Nat) : Met l yX8_isVariable (wU yX8_isVariable cX8_isVariable 2 (some .boolean)) { frames := 1, cells := 0, slots := 0, locals := 22 } (mPc G o F sz [.ref (mh G), .int x]) (mQi G sz (fun r u => u = (o, F) ∧ ((r = 1 ∧ ∃ j, j < N ∧ x = nI j) ∨ (r = 0 ∧ ¬ ∃ j, j < N ∧ x = nI j)))) 0 0 (mA G sz) := by
  refine Met.ofW (cc := cX8_isVariable) (maxL := 2) (ret := (some .boolean)) (by decide) rfl ?_
  intro p e s m args below meth c s₁ B hml hv
  obtain ⟨rfl, hsz, hP, hK⟩ := hv
  have hx := B.exec
  have hb := B.bytes
  have hr := B.returns
  have htu : ∀ w ∈ WU, w.before _ s = true := fun w h => atoms_spec (ws := (wU yX8_isVariable cX8_isVariable 2 (some .boolean))) B.pre w (List.mem_cons_of_mem _ h)
  have hown : s.vm.findClass RX8 = some m.cls := findClass_of_methodNamed B.named
  have hlocks := B.notSynchronized
  subst hsz
  have hS : va_S (mA G s.heap.size) s.heap s.heap [] := va_S.rf
  have hl := lv_entry ([.ref (mh G), .int x]) (n := 2) (Nat.le_of_ble_eq_true rfl)
  rw [lg_entry_eq]
  generalize (lg_sl ([.ref (mh G), .int x]) ++ List.replicate (2 - (lg_sl ([.ref (mh G), .int x])).length) Slot.unset).toArray = ls at hl ⊢
  have hl : lv_has ls 2 [(0, .ref (mh G)), (1, .int x)] := hl
  obtain ⟨H, hHe⟩ : ∃ H : Heap, H = s.heap := ⟨_, rfl⟩
  rw [← hHe] at hP
  have hS : va_S (mA G s.heap.size) s.heap H [] := by rw [hHe]; exact va_S.rf
  refine W.heq hHe ?_
  refine lv_iload_n hx hb dX8_isVariable_0 rfl (lv_at hl 1 rfl) ?_
  refine lv_iconst (v := 0) hx hb dX8_isVariable_1 (by decide) ?_
  refine lv_aload_n hx hb dX8_isVariable_2 rfl (lv_at hl 0 rfl) ?_
  refine m_get (v := .int (nI N)) hx hb htu wu_in hown hK hP 14 (by decide) (htu _ U_40) rfl (m_v h0N) dX8_isVariable_3 ?_
  refine lv_iconst (v := 1) hx hb dX8_isVariable_6 (by decide) ?_
  refine lv_isub hx hb dX8_isVariable_7 ?_
  refine m_top (y := nI N - 1) rfl ?_
  refine m_ci (m_runS (As := [.int x, .int 0, .int (nI N - 1)]) (rest := []) ⟨hx, hb, hml, hown, htu⟩ (m_inn l G hDD o F x 0 (nI N - 1) H.size) (va_cwS 3 htu gU_X8_in rfl rfl rfl (by decide +kernel) ⟨Nat.le_of_ble_eq_true rfl, Nat.le_of_ble_eq_true rfl⟩) hP hK rfl hl.1 rfl (lv_room (Nat.le_of_ble_eq_true rfl)) dX8_isVariable_8) hS (fun r_1 o_2 F_3 H locs hw_4 hP hS => ?_)
  try dsimp only at hw_4
  have hb9 := hw_4.2
  rw [in_nat2 (by omega)] at hb9
  have hn9 : narrow .boolean (.int r_1) = .int r_1 := by rcases hb9 with ⟨rfl, -⟩ | ⟨rfl, -⟩ <;> rfl
  exact m_zret (v := r_1) hx hb hr hK hP hS hn9 ⟨hw_4.1, hb9⟩ dX8_isVariable_11 hlocks

set_option maxHeartbeats 4000000 in
set_option maxRecDepth 100000 in
/-- variable -/
theorem m_variable (l : Launch) (G : mG) (hDD : mDD G) (o : Nat → Int32) (F : Nat → Nat → Int32) (z : aS) (ix : Nat → Nat → Nat) (x : Int32) (y : Int32) (hR : MR z ix o F) (sz : Nat) : Met l yX8_variable (wU yX8_variable cX8_variable 3 (some .int)) { frames := 2, cells := 0, slots := 0, locals := 43 } (mPc G o F sz [.ref (mh G), .int x, .int y]) (mQi G sz (fun r u => u = (o, F) ∧ ((r = -1 ∧ ¬ ((∃ j, j < nV z ∧ x = nI j) ∧ ∃ w, w < 3 ∧ y = nI w)) ∨ ∃ j w, j < nV z ∧ x = nI j ∧ w < 3 ∧ y = nI w ∧ r = if w = 0 then nI (lev z (z.1 6 j)) else nI (row z (w - 1) (z.1 6 j)).length))) 0 0 (mA G sz) := by
  refine Met.ofW (cc := cX8_variable) (maxL := 3) (ret := (some .int)) (by decide) rfl ?_
  intro p e s m args below meth c s₁ B hml hv
  obtain ⟨rfl, hsz, hP, hK⟩ := hv
  have hx := B.exec
  have hb := B.bytes
  have hr := B.returns
  have htu : ∀ w ∈ WU, w.before _ s = true := fun w h => atoms_spec (ws := (wU yX8_variable cX8_variable 3 (some .int))) B.pre w (List.mem_cons_of_mem _ h)
  have hown : s.vm.findClass RX8 = some m.cls := findClass_of_methodNamed B.named
  have hlocks := B.notSynchronized
  subst hsz
  have hS : va_S (mA G s.heap.size) s.heap s.heap [] := va_S.rf
  have hl := lv_entry ([.ref (mh G), .int x, .int y]) (n := 3) (Nat.le_of_ble_eq_true rfl)
  rw [lg_entry_eq]
  generalize (lg_sl ([.ref (mh G), .int x, .int y]) ++ List.replicate (3 - (lg_sl ([.ref (mh G), .int x, .int y])).length) Slot.unset).toArray = ls at hl ⊢
  have hl : lv_has ls 3 [(0, .ref (mh G)), (1, .int x), (2, .int y)] := hl
  obtain ⟨H, hHe⟩ : ∃ H : Heap, H = s.heap := ⟨_, rfl⟩
  rw [← hHe] at hP
  have hS : va_S (mA G s.heap.size) s.heap H [] := by rw [hHe]; exact va_S.rf
  refine W.heq hHe ?_
  obtain ⟨b1, b2, b3, b4, b5, b6, b7, b8⟩ := hR.2.1
  refine lv_aload_n hx hb dX8_variable_0 rfl (lv_at hl 0 rfl) ?_
  refine lv_iload_n hx hb dX8_variable_1 rfl (lv_at hl 1 rfl) ?_
  refine m_ci (m_runV (As := [.int x]) (rest := []) ⟨hx, hb, hml, hown, htu⟩ (m_isVariable l G hDD o F (nV z) x hR.1.2.1 b2 H.size) (cwV 1 htu gU_X8_isVariable rfl rfl rfl (by decide +kernel) ⟨Nat.le_of_ble_eq_true rfl, Nat.le_of_ble_eq_true rfl⟩) hP hK rfl hl.1 rfl (lv_room (Nat.le_of_ble_eq_true rfl)) dX8_variable_2) hS (fun r_1 o_2 F_3 H locs hw_4 hP hS => ?_)
  try dsimp only at hw_4
  obtain ⟨hu, hc⟩ := hw_4
  obtain ⟨h91, h92⟩ := Prod.mk.inj hu
  have h91 := h91.symm
  subst h91
  have h92 := h92.symm
  subst h92
  rcases hc with ⟨g1, q, g2, g3⟩ | ⟨g1, g2⟩
  · skip
    subst g1
    subst g3
    obtain ⟨v1, v2, v3, v4⟩ := hR.2.2.2.2.2.1.2 q g2
    refine lv_if_eq (tgt := 17) hx hb dX8_variable_5 (by decide) (fun c_5 => absurd c_5 (by decide)) (fun c_5 => ?_)
    refine lv_iload_n hx hb dX8_variable_8 rfl (lv_at hl 2 rfl) ?_
    refine lv_iconst (v := 0) hx hb dX8_variable_9 (by decide) ?_
    refine lv_iconst (v := 2) hx hb dX8_variable_10 (by decide) ?_
    refine m_ci (m_runS (As := [.int y, .int 0, .int 2]) (rest := []) ⟨hx, hb, hml, hown, htu⟩ (m_inn l G hDD o F y 0 2 H.size) (va_cwS 3 htu gU_X8_in rfl rfl rfl (by decide +kernel) ⟨Nat.le_of_ble_eq_true rfl, Nat.le_of_ble_eq_true rfl⟩) hP hK rfl hl.1 rfl (lv_room (Nat.le_of_ble_eq_true rfl)) dX8_variable_11) hS (fun r_6 o_7 F_8 H locs hw_9 hP hS => ?_)
    try dsimp only at hw_9
    obtain ⟨hu, hc⟩ := hw_9
    rw [in_w (N := 3) (by decide) (by decide)] at hc
    obtain ⟨h91, h92⟩ := Prod.mk.inj hu
    have h91 := h91.symm
    subst h91
    have h92 := h92.symm
    subst h92
    rcases hc with ⟨k1, w9, k2, k3⟩ | ⟨k1, k2⟩
    · skip
      subst k1
      subst k3
      refine lv_if_ne (tgt := 19) hx hb dX8_variable_14 (by decide) (fun c_10 => ?_) (fun c_10 => absurd c_10 (by decide))
      refine lv_iload_n hx hb dX8_variable_19 rfl (lv_at hl 2 rfl) ?_
      refine lv_if_ne (tgt := 37) hx hb dX8_variable_20 (by decide) (fun c_11 => ?_) (fun c_11 => ?_)
      · skip
        have nc_11 : ¬ w9 = 0 := fun h9 => c_11 ((nI_eq (a := w9) (b := 0) (by omega) (by omega)).mpr h9)
        refine lv_aload_n hx hb dX8_variable_37 rfl (lv_at hl 0 rfl) ?_
        refine m_get (v := .ref (md G 21)) hx hb htu wu_in hown hK hP 21 (by decide) (htu _ U_116) rfl rfl dX8_variable_38 ?_
        refine lv_iconst (v := 2) hx hb dX8_variable_41 (by decide) ?_
        refine lv_iload_n hx hb dX8_variable_42 rfl (lv_at hl 1 rfl) ?_
        refine lv_imul hx hb dX8_variable_43 ?_
        refine m_top (y := nI (2 * q)) (pk_mul 2 q) ?_
        refine lv_iload_n hx hb dX8_variable_44 rfl (lv_at hl 2 rfl) ?_
        refine lv_iadd hx hb dX8_variable_45 ?_
        refine m_top (y := nI (2 * q + w9)) (nI_add (2 * q) w9) ?_
        refine lv_iconst (v := 1) hx hb dX8_variable_46 (by decide) ?_
        refine lv_isub hx hb dX8_variable_47 ?_
        refine m_top (y := nI (2 * q + (w9 - 1))) ((pk_sub (a := 2 * q + w9) (b := 1) (by omega)).trans (congrArg nI (by omega))) ?_
        refine m_ald (j := 2 * q + (w9 - 1)) (v := nI ((row z (w9 - 1) (z.1 6 q)).length)) hx hb hK hP 18 21 rfl (by omega) (by decide) (hR.2.2.2.2.2.2.1 q g2 (w9 - 1) (by omega)).1 dX8_variable_48 ?_
        exact m_iret (v := nI ((row z (w9 - 1) (z.1 6 q)).length)) hx hb hr hK hP hS ⟨rfl, Or.inr ⟨q, w9, g2, rfl, k2, rfl, by rw [if_neg nc_11]⟩⟩ dX8_variable_49 hlocks
      · skip
        have nc_11 : w9 = 0 := (nI_eq (a := w9) (b := 0) (by omega) (by omega)).mp c_11
        refine lv_aload_n hx hb dX8_variable_23 rfl (lv_at hl 0 rfl) ?_
        refine m_get (v := .ref (md G 9)) hx hb htu wu_in hown hK hP 9 (by decide) (htu _ U_54) rfl rfl dX8_variable_24 ?_
        refine lv_aload_n hx hb dX8_variable_27 rfl (lv_at hl 0 rfl) ?_
        refine m_get (v := .ref (md G 15)) hx hb htu wu_in hown hK hP 15 (by decide) (htu _ U_131) rfl rfl dX8_variable_28 ?_
        refine lv_iload_n hx hb dX8_variable_31 rfl (lv_at hl 1 rfl) ?_
        refine m_ald (j := q) (v := nI (z.1 6 q)) hx hb hK hP 13 15 rfl (by omega) (by decide) v1 dX8_variable_32 ?_
        refine m_ald (j := z.1 6 q) (v := nI (lev z (z.1 6 q))) hx hb hK hP 8 9 rfl (by omega) (by decide) (hR.2.2.1 _ v2).2.1 dX8_variable_33 ?_
        refine lv_goto (tgt := 49) hx hb dX8_variable_34 (by decide) ?_
        exact m_iret (v := nI (lev z (z.1 6 q))) hx hb hr hK hP hS ⟨rfl, Or.inr ⟨q, w9, g2, rfl, k2, rfl, by rw [if_pos nc_11]⟩⟩ dX8_variable_49 hlocks
    · skip
      subst k1
      refine lv_if_ne (tgt := 19) hx hb dX8_variable_14 (by decide) (fun c_12 => absurd (by decide) c_12) (fun c_12 => ?_)
      refine lv_iconst (v := (-1)) hx hb dX8_variable_17 (by decide) ?_
      exact m_iret (v := (-1)) hx hb hr hK hP hS ⟨rfl, Or.inl ⟨rfl, fun h => k2 h.2⟩⟩ dX8_variable_18 hlocks
  · skip
    subst g1
    refine lv_if_eq (tgt := 17) hx hb dX8_variable_5 (by decide) (fun c_13 => ?_) (fun c_13 => absurd (by decide) c_13)
    refine lv_iconst (v := (-1)) hx hb dX8_variable_17 (by decide) ?_
    exact m_iret (v := (-1)) hx hb hr hK hP hS ⟨rfl, Or.inl ⟨rfl, fun h => g2 h.1⟩⟩ dX8_variable_18 hlocks

