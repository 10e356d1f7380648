/-! ===== variable in the second program, exact ===== -/

set_option maxHeartbeats 4000000 in
set_option maxRecDepth 100000 in
/-- variable, none -/
theorem m9_variable0 (l : Launch) (G : mG) (hDD : mDD G) (o : Nat → Int32) (F : Nat → Nat → Int32) (x : Int32) (y : Int32) (h14 : o 14 = nI 0) (sz : Nat) : Met l yX8_variable (wU yX8_variable cX8_variable 3 (some .int)) { frames := 2, cells := 0, slots := 0, locals := 43 } (mPc G o F sz [.ref (mh G), .int x, .int y]) (mQi G sz (fun r u => u = (o, F) ∧ r = -1)) 0 0 (mA G sz) := by
  refine Met.ofW (cc := cX8_variable) (maxL := 3) (ret := (some .int)) (by decide) rfl ?_
  intro p e s m args below meth c s₁ B hml hv
  obtain ⟨rfl, hsz, hP, hK⟩ := hv
  have hx := B.exec
  have hb := B.bytes
  have hr := B.returns
  have htu : ∀ w ∈ WU, w.before _ s = true := fun w h => atoms_spec (ws := (wU yX8_variable cX8_variable 3 (some .int))) B.pre w (List.mem_cons_of_mem _ h)
  have hown : s.vm.findClass RX8 = some m.cls := findClass_of_methodNamed B.named
  have hlocks := B.notSynchronized
  subst hsz
  have hS : va_S (mA G s.heap.size) s.heap s.heap [] := va_S.rf
  have hl := lv_entry ([.ref (mh G), .int x, .int y]) (n := 3) (Nat.le_of_ble_eq_true rfl)
  rw [lg_entry_eq]
  generalize (lg_sl ([.ref (mh G), .int x, .int y]) ++ List.replicate (3 - (lg_sl ([.ref (mh G), .int x, .int y])).length) Slot.unset).toArray = ls at hl ⊢
  have hl : lv_has ls 3 [(0, .ref (mh G)), (1, .int x), (2, .int y)] := hl
  obtain ⟨H, hHe⟩ : ∃ H : Heap, H = s.heap := ⟨_, rfl⟩
  rw [← hHe] at hP
  have hS : va_S (mA G s.heap.size) s.heap H [] := by rw [hHe]; exact va_S.rf
  refine W.heq hHe ?_
  refine lv_aload_n hx hb dX8_variable_0 rfl (lv_at hl 0 rfl) ?_
  refine lv_iload_n hx hb dX8_variable_1 rfl (lv_at hl 1 rfl) ?_
  refine m_ci (m_runV (As := [.int x]) (rest := []) ⟨hx, hb, hml, hown, htu⟩ (m_isVariable l G hDD o F 0 x h14 ((by decide)) H.size) (cwV 1 htu gU_X8_isVariable rfl rfl rfl (by decide +kernel) ⟨Nat.le_of_ble_eq_true rfl, Nat.le_of_ble_eq_true rfl⟩) hP hK rfl hl.1 rfl (lv_room (Nat.le_of_ble_eq_true rfl)) dX8_variable_2) hS (fun r_1 o_2 F_3 H locs hw_4 hP hS => ?_)
  try dsimp only at hw_4
  obtain ⟨hu, hc⟩ := hw_4
  obtain ⟨h91, h92⟩ := Prod.mk.inj hu
  have h91 := h91.symm
  subst h91
  have h92 := h92.symm
  subst h92
  rcases hc with ⟨g1, q, g2, g3⟩ | ⟨g1, g2⟩
  · exact absurd g2 (Nat.not_lt_zero _)
  · skip
    subst g1
    refine lv_if_eq (tgt := 17) hx hb dX8_variable_5 (by decide) (fun c_5 => ?_) (fun c_5 => absurd (by decide) c_5)
    refine lv_iconst (v := (-1)) hx hb dX8_variable_17 (by decide) ?_
    exact m_iret (v := (-1)) hx hb hr hK hP hS ⟨rfl, rfl⟩ dX8_variable_18 hlocks

theorem m9_variable (l : Launch) (G : mG) (hDD : mDD G) (o : Nat → Int32) (F : Nat → Nat → Int32) (z : aS) (x y : Int32) (h : (Z0 z ∧ sto z = 0 ∧ o 14 = 0 ∧ o 24 = -9) ∨ ∃ ix, MR z ix o F) (sz : Nat) : Met l yX8_variable (wU yX8_variable cX8_variable 3 (some .int)) { frames := 2, cells := 0, slots := 0, locals := 43 } (mPc G o F sz [.ref (mh G), .int x, .int y]) (mQi G sz (fun r u => u = (o, F) ∧ ((r = -1 ∧ ¬ ((∃ j, j < nV z ∧ x = nI j) ∧ ∃ w, w < 3 ∧ y = nI w)) ∨ ∃ j w, j < nV z ∧ x = nI j ∧ w < 3 ∧ y = nI w ∧ r = if w = 0 then nI (lev z (z.1 6 j)) else nI (row z (w - 1) (z.1 6 j)).length))) 0 0 (mA G sz) := by
  rcases h with ⟨h1, -, h14, -⟩ | ⟨ix, hM⟩
  · refine mQ_mono (m9_variable0 l G hDD o F x y (h14.trans nI_0.symm) sz) (Nat.le_of_ble_eq_true rfl) (Nat.le_of_ble_eq_true rfl) (fun r u h => ⟨h.1, Or.inl ⟨h.2, fun z9 => ?_⟩⟩)
    obtain ⟨⟨j, hj, -⟩, -⟩ := z9
    rw [h1.2.1] at hj
    exact absurd hj (Nat.not_lt_zero _)
  · exact m_variable l G hDD o F z ix x y hM sz

