/-! ===== the second program before the first type() ===== -/

set_option maxHeartbeats 4000000 in
set_option maxRecDepth 100000 in
/-- sign, nothing typed -/
theorem m_sign0 (l : Launch) (G : mG) (hDD : mDD G) (o : Nat → Int32) (F : Nat → Nat → Int32) (y : Int32) (h22 : o 22 = 0) (sz : Nat) : Met l yX8_sign (wU yX8_sign cX8_sign 2 (some .int)) { frames := 0, cells := 0, slots := 0, locals := 0 } (mPc G o F sz [.ref (mh G), .int y]) (mQi G sz (fun r u => u = (o, F))) 0 0 (mA G sz) := by
  refine Met.ofW (cc := cX8_sign) (maxL := 2) (ret := (some .int)) (by decide) rfl ?_
  intro p e s m args below meth c s₁ B hml hv
  obtain ⟨rfl, hsz, hP, hK⟩ := hv
  have hx := B.exec
  have hb := B.bytes
  have hr := B.returns
  have htu : ∀ w ∈ WU, w.before _ s = true := fun w h => atoms_spec (ws := (wU yX8_sign cX8_sign 2 (some .int))) B.pre w (List.mem_cons_of_mem _ h)
  have hown : s.vm.findClass RX8 = some m.cls := findClass_of_methodNamed B.named
  have hlocks := B.notSynchronized
  subst hsz
  have hS : va_S (mA G s.heap.size) s.heap s.heap [] := va_S.rf
  have hl := lv_entry ([.ref (mh G), .int y]) (n := 2) (Nat.le_of_ble_eq_true rfl)
  rw [lg_entry_eq]
  generalize (lg_sl ([.ref (mh G), .int y]) ++ List.replicate (2 - (lg_sl ([.ref (mh G), .int y])).length) Slot.unset).toArray = ls at hl ⊢
  have hl : lv_has ls 2 [(0, .ref (mh G)), (1, .int y)] := hl
  obtain ⟨H, hHe⟩ : ∃ H : Heap, H = s.heap := ⟨_, rfl⟩
  rw [← hHe] at hP
  have hS : va_S (mA G s.heap.size) s.heap H [] := by rw [hHe]; exact va_S.rf
  refine W.heq hHe ?_
  refine lv_aload_n hx hb dX8_sign_0 rfl (lv_at hl 0 rfl) ?_
  refine m_get (v := .int 0) hx hb htu wu_in hown hK hP 22 (by decide) (htu _ U_42) rfl (m_v h22) dX8_sign_1 ?_
  refine lv_if_eq (tgt := 20) hx hb dX8_sign_4 (by decide) (fun c_1 => ?_) (fun c_1 => absurd (by decide) c_1)
  refine lv_bipush (v := (-4)) hx hb dX8_sign_20 (by decide) ?_
  exact m_iret (v := (-4)) hx hb hr hK hP hS rfl dX8_sign_22 hlocks

set_option maxHeartbeats 4000000 in
set_option maxRecDepth 100000 in
/-- variable, none -/
theorem m_variable0 (l : Launch) (G : mG) (hDD : mDD G) (o : Nat → Int32) (F : Nat → Nat → Int32) (x : Int32) (y : Int32) (h14 : o 14 = nI 0) (sz : Nat) : Met l yX8_variable (wU yX8_variable cX8_variable 3 (some .int)) { frames := 2, cells := 0, slots := 0, locals := 43 } (mPc G o F sz [.ref (mh G), .int x, .int y]) (mQi G sz (fun r u => u = (o, F))) 0 0 (mA G sz) := by
  refine Met.ofW (cc := cX8_variable) (maxL := 3) (ret := (some .int)) (by decide) rfl ?_
  intro p e s m args below meth c s₁ B hml hv
  obtain ⟨rfl, hsz, hP, hK⟩ := hv
  have hx := B.exec
  have hb := B.bytes
  have hr := B.returns
  have htu : ∀ w ∈ WU, w.before _ s = true := fun w h => atoms_spec (ws := (wU yX8_variable cX8_variable 3 (some .int))) B.pre w (List.mem_cons_of_mem _ h)
  have hown : s.vm.findClass RX8 = some m.cls := findClass_of_methodNamed B.named
  have hlocks := B.notSynchronized
  subst hsz
  have hS : va_S (mA G s.heap.size) s.heap s.heap [] := va_S.rf
  have hl := lv_entry ([.ref (mh G), .int x, .int y]) (n := 3) (Nat.le_of_ble_eq_true rfl)
  rw [lg_entry_eq]
  generalize (lg_sl ([.ref (mh G), .int x, .int y]) ++ List.replicate (3 - (lg_sl ([.ref (mh G), .int x, .int y])).length) Slot.unset).toArray = ls at hl ⊢
  have hl : lv_has ls 3 [(0, .ref (mh G)), (1, .int x), (2, .int y)] := hl
  obtain ⟨H, hHe⟩ : ∃ H : Heap, H = s.heap := ⟨_, rfl⟩
  rw [← hHe] at hP
  have hS : va_S (mA G s.heap.size) s.heap H [] := by rw [hHe]; exact va_S.rf
  refine W.heq hHe ?_
  refine lv_aload_n hx hb dX8_variable_0 rfl (lv_at hl 0 rfl) ?_
  refine lv_iload_n hx hb dX8_variable_1 rfl (lv_at hl 1 rfl) ?_
  refine m_ci (m_runV (As := [.int x]) (rest := []) ⟨hx, hb, hml, hown, htu⟩ (m_isVariable l G hDD o F 0 x h14 ((by decide)) H.size) (cwV 1 htu gU_X8_isVariable rfl rfl rfl (by decide +kernel) ⟨Nat.le_of_ble_eq_true rfl, Nat.le_of_ble_eq_true rfl⟩) hP hK rfl hl.1 rfl (lv_room (Nat.le_of_ble_eq_true rfl)) dX8_variable_2) hS (fun r_1 o_2 F_3 H locs hw_4 hP hS => ?_)
  try dsimp only at hw_4
  obtain ⟨hu, hc⟩ := hw_4
  obtain ⟨h91, h92⟩ := Prod.mk.inj hu
  have h91 := h91.symm
  subst h91
  have h92 := h92.symm
  subst h92
  rcases hc with ⟨g1, q, g2, g3⟩ | ⟨g1, g2⟩
  · exact absurd g2 (Nat.not_lt_zero _)
  · skip
    subst g1
    refine lv_if_eq (tgt := 17) hx hb dX8_variable_5 (by decide) (fun c_5 => ?_) (fun c_5 => absurd (by decide) c_5)
    refine lv_iconst (v := (-1)) hx hb dX8_variable_17 (by decide) ?_
    exact m_iret (v := (-1)) hx hb hr hK hP hS rfl dX8_variable_18 hlocks

set_option maxHeartbeats 4000000 in
set_option maxRecDepth 100000 in
/-- bound, none -/
theorem m_bound0 (l : Launch) (G : mG) (hDD : mDD G) (o : Nat → Int32) (F : Nat → Nat → Int32) (x : Int32) (ab : Int32) (iv : Int32) (y : Int32) (h14 : o 14 = nI 0) (sz : Nat) : Met l yX8_bound (wU yX8_bound cX8_bound 8 (some .int)) { frames := 2, cells := 0, slots := 0, locals := 43 } (mPc G o F sz [.ref (mh G), .int x, .int ab, .int iv, .int y]) (mQi G sz (fun r u => u = (o, F))) 0 0 (mA G sz) := by
  refine Met.ofW (cc := cX8_bound) (maxL := 8) (ret := (some .int)) (by decide) rfl ?_
  intro p e s m args below meth c s₁ B hml hv
  obtain ⟨rfl, hsz, hP, hK⟩ := hv
  have hx := B.exec
  have hb := B.bytes
  have hr := B.returns
  have htu : ∀ w ∈ WU, w.before _ s = true := fun w h => atoms_spec (ws := (wU yX8_bound cX8_bound 8 (some .int))) B.pre w (List.mem_cons_of_mem _ h)
  have hown : s.vm.findClass RX8 = some m.cls := findClass_of_methodNamed B.named
  have hlocks := B.notSynchronized
  subst hsz
  have hS : va_S (mA G s.heap.size) s.heap s.heap [] := va_S.rf
  have hl := lv_entry ([.ref (mh G), .int x, .int ab, .int iv, .int y]) (n := 8) (Nat.le_of_ble_eq_true rfl)
  rw [lg_entry_eq]
  generalize (lg_sl ([.ref (mh G), .int x, .int ab, .int iv, .int y]) ++ List.replicate (8 - (lg_sl ([.ref (mh G), .int x, .int ab, .int iv, .int y])).length) Slot.unset).toArray = ls at hl ⊢
  have hl : lv_has ls 8 [(0, .ref (mh G)), (1, .int x), (2, .int ab), (3, .int iv), (4, .int y)] := hl
  obtain ⟨H, hHe⟩ : ∃ H : Heap, H = s.heap := ⟨_, rfl⟩
  rw [← hHe] at hP
  have hS : va_S (mA G s.heap.size) s.heap H [] := by rw [hHe]; exact va_S.rf
  refine W.heq hHe ?_
  refine lv_aload_n hx hb dX8_bound_0 rfl (lv_at hl 0 rfl) ?_
  refine lv_iload_n hx hb dX8_bound_1 rfl (lv_at hl 1 rfl) ?_
  refine m_ci (m_runV (As := [.int x]) (rest := []) ⟨hx, hb, hml, hown, htu⟩ (m_isVariable l G hDD o F 0 x h14 ((by decide)) H.size) (cwV 1 htu gU_X8_isVariable rfl rfl rfl (by decide +kernel) ⟨Nat.le_of_ble_eq_true rfl, Nat.le_of_ble_eq_true rfl⟩) hP hK rfl hl.1 rfl (lv_room (Nat.le_of_ble_eq_true rfl)) dX8_bound_2) hS (fun r_1 o_2 F_3 H locs hw_4 hP hS => ?_)
  try dsimp only at hw_4
  obtain ⟨hu, hc⟩ := hw_4
  obtain ⟨h91, h92⟩ := Prod.mk.inj hu
  have h91 := h91.symm
  subst h91
  have h92 := h92.symm
  subst h92
  rcases hc with ⟨g1, q, g2, g3⟩ | ⟨g1, g2⟩
  · exact absurd g2 (Nat.not_lt_zero _)
  · skip
    subst g1
    refine lv_if_ne (tgt := 10) hx hb dX8_bound_5 (by decide) (fun c_5 => absurd (by decide) c_5) (fun c_5 => ?_)
    refine lv_iconst (v := (-1)) hx hb dX8_bound_8 (by decide) ?_
    exact m_iret (v := (-1)) hx hb hr hK hP hS rfl dX8_bound_9 hlocks
