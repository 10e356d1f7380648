set_option maxHeartbeats 4000000 in
set_option maxRecDepth 100000 in
/-- node of no kind -/
theorem m_node_bad (l : Launch) (G : mG) (hDD : mDD G) (o : Nat → Int32) (F : Nat → Nat → Int32) (x : Int32) (v9 : Int32) (a1 : Int32) (a2 : Int32) (a3 : Int32) (hx0 : ¬ ∃ j, j < 12 ∧ x = nI j) (sz : Nat) : Met l yX8_node (wU yX8_node cX8_node 8 (some .int)) { frames := 1, cells := 0, slots := 0, locals := 22 } (mPc G o F sz [.ref (mh G), .int x, .int v9, .int a1, .int a2, .int a3]) (mQi G sz (fun r u => r = -1 ∧ u = (o, F))) 0 0 (mA G sz) := by
  refine Met.ofW (cc := cX8_node) (maxL := 8) (ret := (some .int)) (by decide) rfl ?_
  intro p e s m args below meth c s₁ B hml hv
  obtain ⟨rfl, hsz, hP, hK⟩ := hv
  have hx := B.exec
  have hb := B.bytes
  have hr := B.returns
  have htu : ∀ w ∈ WU, w.before _ s = true := fun w h => atoms_spec (ws := (wU yX8_node cX8_node 8 (some .int))) B.pre w (List.mem_cons_of_mem _ h)
  have hown : s.vm.findClass RX8 = some m.cls := findClass_of_methodNamed B.named
  have hlocks := B.notSynchronized
  subst hsz
  have hS : va_S (mA G s.heap.size) s.heap s.heap [] := va_S.rf
  have hl := lv_entry ([.ref (mh G), .int x, .int v9, .int a1, .int a2, .int a3]) (n := 8) (Nat.le_of_ble_eq_true rfl)
  rw [lg_entry_eq]
  generalize (lg_sl ([.ref (mh G), .int x, .int v9, .int a1, .int a2, .int a3]) ++ List.replicate (8 - (lg_sl ([.ref (mh G), .int x, .int v9, .int a1, .int a2, .int a3])).length) Slot.unset).toArray = ls at hl ⊢
  have hl : lv_has ls 8 [(0, .ref (mh G)), (1, .int x), (2, .int v9), (3, .int a1), (4, .int a2), (5, .int a3)] := hl
  obtain ⟨H, hHe⟩ : ∃ H : Heap, H = s.heap := ⟨_, rfl⟩
  rw [← hHe] at hP
  have hS : va_S (mA G s.heap.size) s.heap H [] := by rw [hHe]; exact va_S.rf
  refine W.heq hHe ?_
  refine lv_iload_n hx hb dX8_node_0 rfl (lv_at hl 1 rfl) ?_
  refine lv_iconst (v := 0) hx hb dX8_node_1 (by decide) ?_
  refine lv_bipush (v := 11) hx hb dX8_node_2 (by decide) ?_
  refine m_ci (m_runS (As := [.int x, .int 0, .int 11]) (rest := []) ⟨hx, hb, hml, hown, htu⟩ (m_inn l G hDD o F x 0 11 H.size) (va_cwS 3 htu gU_X8_in rfl rfl rfl (by decide +kernel) ⟨Nat.le_of_ble_eq_true rfl, Nat.le_of_ble_eq_true rfl⟩) hP hK rfl hl.1 rfl (lv_room (Nat.le_of_ble_eq_true rfl)) dX8_node_4) hS (fun r_1 o_2 F_3 H locs hw_4 hP hS => ?_)
  try dsimp only at hw_4
  obtain ⟨hu, hc⟩ := hw_4
  rw [in_w (N := 12) (by decide) (by decide)] at hc
  obtain ⟨h91, h92⟩ := Prod.mk.inj hu
  have h91 := h91.symm
  subst h91
  have h92 := h92.symm
  subst h92
  obtain rfl : r_1 = 0 := by rcases hc with h | h; exact absurd h.2 hx0; exact h.1
  refine lv_if_eq (tgt := 41) hx hb dX8_node_7 (by decide) (fun c_5 => ?_) (fun c_5 => absurd (by decide) c_5)
  refine lv_iconst (v := (-1)) hx hb dX8_node_41 (by decide) ?_
  exact m_iret (v := (-1)) hx hb hr hK hP hS ⟨rfl, rfl⟩ dX8_node_42 hlocks

