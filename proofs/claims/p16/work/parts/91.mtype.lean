theorem dX8_in_0 : decode cX8_in 0 = .ok (.iload_n 0, 1) := by decide +kernel
theorem dX8_in_1 : decode cX8_in 1 = .ok (.iload_n 1, 1) := by decide +kernel
theorem dX8_in_2 : decode cX8_in 2 = .ok (.if_icmp .lt 12, 3) := by decide +kernel
theorem dX8_in_14 : decode cX8_in 14 = .ok (.iconst 0, 1) := by decide +kernel
theorem dX8_in_15 : decode cX8_in 15 = .ok (.ireturn, 1) := by decide +kernel
theorem dX8_in_5 : decode cX8_in 5 = .ok (.iload_n 0, 1) := by decide +kernel
theorem dX8_in_6 : decode cX8_in 6 = .ok (.iload_n 2, 1) := by decide +kernel
theorem dX8_in_7 : decode cX8_in 7 = .ok (.if_icmp .gt 7, 3) := by decide +kernel
theorem dX8_in_10 : decode cX8_in 10 = .ok (.iconst 1, 1) := by decide +kernel
theorem dX8_in_11 : decode cX8_in 11 = .ok (.goto 4, 3) := by decide +kernel
theorem dX8_isNode_0 : decode cX8_isNode 0 = .ok (.iload_n 1, 1) := by decide +kernel
theorem dX8_isNode_1 : decode cX8_isNode 1 = .ok (.iconst 0, 1) := by decide +kernel
theorem dX8_isNode_2 : decode cX8_isNode 2 = .ok (.aload_n 0, 1) := by decide +kernel
theorem dX8_isNode_3 : decode cX8_isNode 3 = .ok (.getfield 137, 3) := by decide +kernel
theorem dX8_isNode_6 : decode cX8_isNode 6 = .ok (.iconst 1, 1) := by decide +kernel
theorem dX8_isNode_7 : decode cX8_isNode 7 = .ok (.isub, 1) := by decide +kernel
theorem dX8_isNode_8 : decode cX8_isNode 8 = .ok (.invokestatic 140, 3) := by decide +kernel
theorem dX8_isNode_11 : decode cX8_isNode 11 = .ok (.ireturn, 1) := by decide +kernel
theorem dX8_forgetTypes_0 : decode cX8_forgetTypes 0 = .ok (.aload_n 0, 1) := by decide +kernel
theorem dX8_forgetTypes_1 : decode cX8_forgetTypes 1 = .ok (.iconst 2, 1) := by decide +kernel
theorem dX8_forgetTypes_2 : decode cX8_forgetTypes 2 = .ok (.putfield 168, 3) := by decide +kernel
theorem dX8_forgetTypes_5 : decode cX8_forgetTypes 5 = .ok (.aload_n 0, 1) := by decide +kernel
theorem dX8_forgetTypes_6 : decode cX8_forgetTypes 6 = .ok (.iconst 0, 1) := by decide +kernel
theorem dX8_forgetTypes_7 : decode cX8_forgetTypes 7 = .ok (.putfield 171, 3) := by decide +kernel
theorem dX8_forgetTypes_10 : decode cX8_forgetTypes 10 = .ok (.aload_n 0, 1) := by decide +kernel
theorem dX8_forgetTypes_11 : decode cX8_forgetTypes 11 = .ok (.iconst 0, 1) := by decide +kernel
theorem dX8_forgetTypes_12 : decode cX8_forgetTypes 12 = .ok (.putfield 174, 3) := by decide +kernel
theorem dX8_forgetTypes_15 : decode cX8_forgetTypes 15 = .ok (.aload_n 0, 1) := by decide +kernel
theorem dX8_forgetTypes_16 : decode cX8_forgetTypes 16 = .ok (.iconst 0, 1) := by decide +kernel
theorem dX8_forgetTypes_17 : decode cX8_forgetTypes 17 = .ok (.putfield 177, 3) := by decide +kernel
theorem dX8_forgetTypes_20 : decode cX8_forgetTypes 20 = .ok (.aload_n 0, 1) := by decide +kernel
theorem dX8_forgetTypes_21 : decode cX8_forgetTypes 21 = .ok (.bipush (-9), 2) := by decide +kernel
theorem dX8_forgetTypes_23 : decode cX8_forgetTypes 23 = .ok (.putfield 127, 3) := by decide +kernel
theorem dX8_forgetTypes_26 : decode cX8_forgetTypes 26 = .ok (.aload_n 0, 1) := by decide +kernel
theorem dX8_forgetTypes_27 : decode cX8_forgetTypes 27 = .ok (.iconst 0, 1) := by decide +kernel
theorem dX8_forgetTypes_28 : decode cX8_forgetTypes 28 = .ok (.putfield 181, 3) := by decide +kernel
theorem dX8_forgetTypes_31 : decode cX8_forgetTypes 31 = .ok (.aload_n 0, 1) := by decide +kernel
theorem dX8_forgetTypes_32 : decode cX8_forgetTypes 32 = .ok (.iconst 0, 1) := by decide +kernel
theorem dX8_forgetTypes_33 : decode cX8_forgetTypes 33 = .ok (.putfield 184, 3) := by decide +kernel
theorem dX8_forgetTypes_36 : decode cX8_forgetTypes 36 = .ok (.aload_n 0, 1) := by decide +kernel
theorem dX8_forgetTypes_37 : decode cX8_forgetTypes 37 = .ok (.iconst 0, 1) := by decide +kernel
theorem dX8_forgetTypes_38 : decode cX8_forgetTypes 38 = .ok (.putfield 187, 3) := by decide +kernel
theorem dX8_forgetTypes_41 : decode cX8_forgetTypes 41 = .ok (.aload_n 0, 1) := by decide +kernel
theorem dX8_forgetTypes_42 : decode cX8_forgetTypes 42 = .ok (.iconst 0, 1) := by decide +kernel
theorem dX8_forgetTypes_43 : decode cX8_forgetTypes 43 = .ok (.putfield 190, 3) := by decide +kernel
theorem dX8_forgetTypes_46 : decode cX8_forgetTypes 46 = .ok (.aload_n 0, 1) := by decide +kernel
theorem dX8_forgetTypes_47 : decode cX8_forgetTypes 47 = .ok (.iconst 0, 1) := by decide +kernel
theorem dX8_forgetTypes_48 : decode cX8_forgetTypes 48 = .ok (.putfield 193, 3) := by decide +kernel
theorem dX8_forgetTypes_51 : decode cX8_forgetTypes 51 = .ok (.aload_n 0, 1) := by decide +kernel
theorem dX8_forgetTypes_52 : decode cX8_forgetTypes 52 = .ok (.iconst 0, 1) := by decide +kernel
theorem dX8_forgetTypes_53 : decode cX8_forgetTypes 53 = .ok (.putfield 196, 3) := by decide +kernel
theorem dX8_forgetTypes_56 : decode cX8_forgetTypes 56 = .ok (.aload_n 0, 1) := by decide +kernel
theorem dX8_forgetTypes_57 : decode cX8_forgetTypes 57 = .ok (.iconst 0, 1) := by decide +kernel
theorem dX8_forgetTypes_58 : decode cX8_forgetTypes 58 = .ok (.putfield 199, 3) := by decide +kernel
theorem dX8_forgetTypes_61 : decode cX8_forgetTypes 61 = .ok (.return_, 1) := by decide +kernel
set_option maxHeartbeats 4000000 in
set_option maxRecDepth 100000 in
/-- in -/
theorem m_inn (l : Launch) (G : mG) (hDD : mDD G) (o : Nat → Int32) (F : Nat → Nat → Int32) (x : Int32) (y : Int32) (w : Int32) (sz : Nat) : Met l yX8_in (wU yX8_in cX8_in 3 (some .boolean)) { frames := 0, cells := 0, slots := 0, locals := 0 } (mPc G o F sz [.int x, .int y, .int w]) (mQi G sz (fun r u => u = (o, F) ∧ ((r = 1 ∧ y ≤ x ∧ x ≤ w) ∨ (r = 0 ∧ ¬ (y ≤ x ∧ x ≤ w))))) 0 0 (mA G sz) := by
  refine Met.ofW (cc := cX8_in) (maxL := 3) (ret := (some .boolean)) (by decide) rfl ?_
  intro p e s m args below meth c s₁ B hml hv
  obtain ⟨rfl, hsz, hP, hK⟩ := hv
  have hx := B.exec
  have hb := B.bytes
  have hr := B.returns
  have htu : ∀ w ∈ WU, w.before _ s = true := fun w h => atoms_spec (ws := (wU yX8_in cX8_in 3 (some .boolean))) B.pre w (List.mem_cons_of_mem _ h)
  have hown : s.vm.findClass RX8 = some m.cls := findClass_of_methodNamed B.named
  have hlocks := B.notSynchronized
  subst hsz
  have hS : va_S (mA G s.heap.size) s.heap s.heap [] := va_S.rf
  have hl := lv_entry ([.int x, .int y, .int w]) (n := 3) (Nat.le_of_ble_eq_true rfl)
  rw [lg_entry_eq]
  generalize (lg_sl ([.int x, .int y, .int w]) ++ List.replicate (3 - (lg_sl ([.int x, .int y, .int w])).length) Slot.unset).toArray = ls at hl ⊢
  have hl : lv_has ls 3 [(0, .int x), (1, .int y), (2, .int w)] := hl
  obtain ⟨H, hHe⟩ : ∃ H : Heap, H = s.heap := ⟨_, rfl⟩
  rw [← hHe] at hP
  have hS : va_S (mA G s.heap.size) s.heap H [] := by rw [hHe]; exact va_S.rf
  refine W.heq hHe ?_
  refine lv_iload_n hx hb dX8_in_0 rfl (lv_at hl 0 rfl) ?_
  refine lv_iload_n hx hb dX8_in_1 rfl (lv_at hl 1 rfl) ?_
  refine lv_icmp_lt (tgt := 14) hx hb dX8_in_2 (by decide) (fun c_1 => ?_) (fun c_1 => ?_)
  · skip
    refine lv_iconst (v := 0) hx hb dX8_in_14 (by decide) ?_
    exact m_zret (v := 0) hx hb hr hK hP hS rfl ⟨rfl, Or.inr ⟨rfl, fun h => Int32.not_le.mpr c_1 h.1⟩⟩ dX8_in_15 hlocks
  · skip
    refine lv_iload_n hx hb dX8_in_5 rfl (lv_at hl 0 rfl) ?_
    refine lv_iload_n hx hb dX8_in_6 rfl (lv_at hl 2 rfl) ?_
    refine lv_icmp_gt (tgt := 14) hx hb dX8_in_7 (by decide) (fun c_2 => ?_) (fun c_2 => ?_)
    · skip
      refine lv_iconst (v := 0) hx hb dX8_in_14 (by decide) ?_
      exact m_zret (v := 0) hx hb hr hK hP hS rfl ⟨rfl, Or.inr ⟨rfl, fun h => Int32.not_le.mpr c_2 h.2⟩⟩ dX8_in_15 hlocks
    · skip
      refine lv_iconst (v := 1) hx hb dX8_in_10 (by decide) ?_
      refine lv_goto (tgt := 15) hx hb dX8_in_11 (by decide) ?_
      exact m_zret (v := 1) hx hb hr hK hP hS rfl ⟨rfl, Or.inl ⟨rfl, Int32.not_lt.mp c_1, Int32.not_lt.mp c_2⟩⟩ dX8_in_15 hlocks

set_option maxHeartbeats 4000000 in
set_option maxRecDepth 100000 in
/-- isNode -/
theorem m_isNode (l : Launch) (G : mG) (hDD : mDD G) (o : Nat → Int32) (F : Nat → Nat → Int32) (N : Nat) (x : Int32) (h0N : o 0 = nI N) (hN : N ≤ 120) (sz : Nat) : Met l yX8_isNode (wU yX8_isNode cX8_isNode 2 (some .boolean)) { frames := 1, cells := 0, slots := 0, locals := 22 } (mPc G o F sz [.ref (mh G), .int x]) (mQi G sz (fun r u => u = (o, F) ∧ ((r = 1 ∧ ∃ j, j < N ∧ x = nI j) ∨ (r = 0 ∧ ¬ ∃ j, j < N ∧ x = nI j)))) 0 0 (mA G sz) := by
  refine Met.ofW (cc := cX8_isNode) (maxL := 2) (ret := (some .boolean)) (by decide) rfl ?_
  intro p e s m args below meth c s₁ B hml hv
  obtain ⟨rfl, hsz, hP, hK⟩ := hv
  have hx := B.exec
  have hb := B.bytes
  have hr := B.returns
  have htu : ∀ w ∈ WU, w.before _ s = true := fun w h => atoms_spec (ws := (wU yX8_isNode cX8_isNode 2 (some .boolean))) B.pre w (List.mem_cons_of_mem _ h)
  have hown : s.vm.findClass RX8 = some m.cls := findClass_of_methodNamed B.named
  have hlocks := B.notSynchronized
  subst hsz
  have hS : va_S (mA G s.heap.size) s.heap s.heap [] := va_S.rf
  have hl := lv_entry ([.ref (mh G), .int x]) (n := 2) (Nat.le_of_ble_eq_true rfl)
  rw [lg_entry_eq]
  generalize (lg_sl ([.ref (mh G), .int x]) ++ List.replicate (2 - (lg_sl ([.ref (mh G), .int x])).length) Slot.unset).toArray = ls at hl ⊢
  have hl : lv_has ls 2 [(0, .ref (mh G)), (1, .int x)] := hl
  obtain ⟨H, hHe⟩ : ∃ H : Heap, H = s.heap := ⟨_, rfl⟩
  rw [← hHe] at hP
  have hS : va_S (mA G s.heap.size) s.heap H [] := by rw [hHe]; exact va_S.rf
  refine W.heq hHe ?_
  refine lv_iload_n hx hb dX8_isNode_0 rfl (lv_at hl 1 rfl) ?_
  refine lv_iconst (v := 0) hx hb dX8_isNode_1 (by decide) ?_
  refine lv_aload_n hx hb dX8_isNode_2 rfl (lv_at hl 0 rfl) ?_
  refine m_get (v := .int (nI N)) hx hb htu wu_in hown hK hP 0 (by decide) (htu _ U_1) rfl (m_v h0N) dX8_isNode_3 ?_
  refine lv_iconst (v := 1) hx hb dX8_isNode_6 (by decide) ?_
  refine lv_isub hx hb dX8_isNode_7 ?_
  refine m_top (y := nI N - 1) rfl ?_
  refine m_ci (m_runS (As := [.int x, .int 0, .int (nI N - 1)]) (rest := []) ⟨hx, hb, hml, hown, htu⟩ (m_inn l G hDD o F x 0 (nI N - 1) H.size) (va_cwS 3 htu gU_X8_in rfl rfl rfl (by decide +kernel) ⟨Nat.le_of_ble_eq_true rfl, Nat.le_of_ble_eq_true rfl⟩) hP hK rfl hl.1 rfl (lv_room (Nat.le_of_ble_eq_true rfl)) dX8_isNode_8) hS (fun r_1 o_2 F_3 H locs hw_4 hP hS => ?_)
  try dsimp only at hw_4
  have hb9 := hw_4.2
  rw [in_nat hN] at hb9
  have hn9 : narrow .boolean (.int r_1) = .int r_1 := by rcases hb9 with ⟨rfl, -⟩ | ⟨rfl, -⟩ <;> rfl
  exact m_zret (v := r_1) hx hb hr hK hP hS hn9 ⟨hw_4.1, hb9⟩ dX8_isNode_11 hlocks

set_option maxHeartbeats 4000000 in
set_option maxRecDepth 100000 in
/-- forgetTypes -/
theorem m_forgetTypes (l : Launch) (G : mG) (hDD : mDD G) (o : Nat → Int32) (F : Nat → Nat → Int32) (sz : Nat) : Met l yX8_forgetTypes (wU yX8_forgetTypes cX8_forgetTypes 1 none) { frames := 0, cells := 0, slots := 0, locals := 0 } (mPc G o F sz [.ref (mh G)]) (mQv G sz (fun u => u = (upd (upd (upd (upd (upd (upd (upd (upd (upd (upd (upd (upd o 7 2) 14 0) 16 0) 22 0) 24 (-9)) 26 0) 27 0) 28 0) 31 0) 32 0) 33 0) 34 0, F))) 0 0 (mA G sz) := by
  refine Met.ofW (cc := cX8_forgetTypes) (maxL := 1) (ret := none) (by decide) rfl ?_
  intro p e s m args below meth c s₁ B hml hv
  obtain ⟨rfl, hsz, hP, hK⟩ := hv
  have hx := B.exec
  have hb := B.bytes
  have hr := B.returns
  have htu : ∀ w ∈ WU, w.before _ s = true := fun w h => atoms_spec (ws := (wU yX8_forgetTypes cX8_forgetTypes 1 none)) B.pre w (List.mem_cons_of_mem _ h)
  have hown : s.vm.findClass RX8 = some m.cls := findClass_of_methodNamed B.named
  have hlocks := B.notSynchronized
  subst hsz
  have hS : va_S (mA G s.heap.size) s.heap s.heap [] := va_S.rf
  have hl := lv_entry ([.ref (mh G)]) (n := 1) (Nat.le_of_ble_eq_true rfl)
  rw [lg_entry_eq]
  generalize (lg_sl ([.ref (mh G)]) ++ List.replicate (1 - (lg_sl ([.ref (mh G)])).length) Slot.unset).toArray = ls at hl ⊢
  have hl : lv_has ls 1 [(0, .ref (mh G))] := hl
  obtain ⟨H, hHe⟩ : ∃ H : Heap, H = s.heap := ⟨_, rfl⟩
  rw [← hHe] at hP
  have hS : va_S (mA G s.heap.size) s.heap H [] := by rw [hHe]; exact va_S.rf
  refine W.heq hHe ?_
  refine lv_aload_n hx hb dX8_forgetTypes_0 rfl (lv_at hl 0 rfl) ?_
  refine lv_iconst (v := 2) hx hb dX8_forgetTypes_1 (by decide) ?_
  refine m_put (ty := .int) (x := 2) hx hb htu wu_in hown hK hP hDD hS 7 (by decide) (htu _ U_39) rfl rfl (by decide +kernel) rfl rfl (mO_s7 _ _ _) dX8_forgetTypes_2 (fun H locs hP hS => ?_)
  refine lv_aload_n hx hb dX8_forgetTypes_5 rfl (lv_at hl 0 rfl) ?_
  refine lv_iconst (v := 0) hx hb dX8_forgetTypes_6 (by decide) ?_
  refine m_put (ty := .int) (x := 0) hx hb htu wu_in hown hK hP hDD hS 14 (by decide) (htu _ U_40) rfl rfl (by decide +kernel) rfl rfl (mO_s14 _ _ _) dX8_forgetTypes_7 (fun H locs hP hS => ?_)
  refine lv_aload_n hx hb dX8_forgetTypes_10 rfl (lv_at hl 0 rfl) ?_
  refine lv_iconst (v := 0) hx hb dX8_forgetTypes_11 (by decide) ?_
  refine m_put (ty := .int) (x := 0) hx hb htu wu_in hown hK hP hDD hS 16 (by decide) (htu _ U_41) rfl rfl (by decide +kernel) rfl rfl (mO_s16 _ _ _) dX8_forgetTypes_12 (fun H locs hP hS => ?_)
  refine lv_aload_n hx hb dX8_forgetTypes_15 rfl (lv_at hl 0 rfl) ?_
  refine lv_iconst (v := 0) hx hb dX8_forgetTypes_16 (by decide) ?_
  refine m_put (ty := .boolean) (x := 0) hx hb htu wu_in hown hK hP hDD hS 22 (by decide) (htu _ U_42) rfl rfl (by decide +kernel) rfl rfl (mO_s22 _ _ _) dX8_forgetTypes_17 (fun H locs hP hS => ?_)
  refine lv_aload_n hx hb dX8_forgetTypes_20 rfl (lv_at hl 0 rfl) ?_
  refine lv_bipush (v := (-9)) hx hb dX8_forgetTypes_21 (by decide) ?_
  refine m_put (ty := .int) (x := (-9)) hx hb htu wu_in hown hK hP hDD hS 24 (by decide) (htu _ U_43) rfl rfl (by decide +kernel) rfl rfl (mO_s24 _ _ _) dX8_forgetTypes_23 (fun H locs hP hS => ?_)
  refine lv_aload_n hx hb dX8_forgetTypes_26 rfl (lv_at hl 0 rfl) ?_
  refine lv_iconst (v := 0) hx hb dX8_forgetTypes_27 (by decide) ?_
  refine m_put (ty := .int) (x := 0) hx hb htu wu_in hown hK hP hDD hS 26 (by decide) (htu _ U_44) rfl rfl (by decide +kernel) rfl rfl (mO_s26 _ _ _) dX8_forgetTypes_28 (fun H locs hP hS => ?_)
  refine lv_aload_n hx hb dX8_forgetTypes_31 rfl (lv_at hl 0 rfl) ?_
  refine lv_iconst (v := 0) hx hb dX8_forgetTypes_32 (by decide) ?_
  refine m_put (ty := .int) (x := 0) hx hb htu wu_in hown hK hP hDD hS 27 (by decide) (htu _ U_45) rfl rfl (by decide +kernel) rfl rfl (mO_s27 _ _ _) dX8_forgetTypes_33 (fun H locs hP hS => ?_)
  refine lv_aload_n hx hb dX8_forgetTypes_36 rfl (lv_at hl 0 rfl) ?_
  refine lv_iconst (v := 0) hx hb dX8_forgetTypes_37 (by decide) ?_
  refine m_put (ty := .int) (x := 0) hx hb htu wu_in hown hK hP hDD hS 28 (by decide) (htu _ U_46) rfl rfl (by decide +kernel) rfl rfl (mO_s28 _ _ _) dX8_forgetTypes_38 (fun H locs hP hS => ?_)
  refine lv_aload_n hx hb dX8_forgetTypes_41 rfl (lv_at hl 0 rfl) ?_
  refine lv_iconst (v := 0) hx hb dX8_forgetTypes_42 (by decide) ?_
  refine m_put (ty := .int) (x := 0) hx hb htu wu_in hown hK hP hDD hS 31 (by decide) (htu _ U_47) rfl rfl (by decide +kernel) rfl rfl (mO_s31 _ _ _) dX8_forgetTypes_43 (fun H locs hP hS => ?_)
  refine lv_aload_n hx hb dX8_forgetTypes_46 rfl (lv_at hl 0 rfl) ?_
  refine lv_iconst (v := 0) hx hb dX8_forgetTypes_47 (by decide) ?_
  refine m_put (ty := .int) (x := 0) hx hb htu wu_in hown hK hP hDD hS 32 (by decide) (htu _ U_48) rfl rfl (by decide +kernel) rfl rfl (mO_s32 _ _ _) dX8_forgetTypes_48 (fun H locs hP hS => ?_)
  refine lv_aload_n hx hb dX8_forgetTypes_51 rfl (lv_at hl 0 rfl) ?_
  refine lv_iconst (v := 0) hx hb dX8_forgetTypes_52 (by decide) ?_
  refine m_put (ty := .int) (x := 0) hx hb htu wu_in hown hK hP hDD hS 33 (by decide) (htu _ U_49) rfl rfl (by decide +kernel) rfl rfl (mO_s33 _ _ _) dX8_forgetTypes_53 (fun H locs hP hS => ?_)
  refine lv_aload_n hx hb dX8_forgetTypes_56 rfl (lv_at hl 0 rfl) ?_
  refine lv_iconst (v := 0) hx hb dX8_forgetTypes_57 (by decide) ?_
  refine m_put (ty := .int) (x := 0) hx hb htu wu_in hown hK hP hDD hS 34 (by decide) (htu _ U_50) rfl rfl (by decide +kernel) rfl rfl (mO_s34 _ _ _) dX8_forgetTypes_58 (fun H locs hP hS => ?_)
  exact m_vret hx hb hr hK hP hS rfl dX8_forgetTypes_61 hlocks

