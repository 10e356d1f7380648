theorem dX8_where_0 : decode cX8_where 0 = .ok (.aload_n 0, 1) := by decide +kernel
theorem dX8_where_1 : decode cX8_where 1 = .ok (.getfield 127, 3) := by decide +kernel
theorem dX8_where_4 : decode cX8_where 4 = .ok (.ireturn, 1) := by decide +kernel
theorem dX8_steps_0 : decode cX8_steps 0 = .ok (.aload_n 0, 1) := by decide +kernel
theorem dX8_steps_1 : decode cX8_steps 1 = .ok (.getfield 181, 3) := by decide +kernel
theorem dX8_steps_4 : decode cX8_steps 4 = .ok (.ireturn, 1) := by decide +kernel
theorem dX8_worked_0 : decode cX8_worked 0 = .ok (.aload_n 0, 1) := by decide +kernel
theorem dX8_worked_1 : decode cX8_worked 1 = .ok (.getfield 334, 3) := by decide +kernel
theorem dX8_worked_4 : decode cX8_worked 4 = .ok (.ireturn, 1) := by decide +kernel
theorem dX8_stuck_0 : decode cX8_stuck 0 = .ok (.aload_n 0, 1) := by decide +kernel
theorem dX8_stuck_1 : decode cX8_stuck 1 = .ok (.getfield 134, 3) := by decide +kernel
theorem dX8_stuck_4 : decode cX8_stuck 4 = .ok (.ireturn, 1) := by decide +kernel
theorem dX8_told_0 : decode cX8_told 0 = .ok (.aload_n 0, 1) := by decide +kernel
theorem dX8_told_1 : decode cX8_told 1 = .ok (.iload_n 1, 1) := by decide +kernel
theorem dX8_told_2 : decode cX8_told 2 = .ok (.invokevirtual 144, 3) := by decide +kernel
theorem dX8_told_5 : decode cX8_told 5 = .ok (.ifCond .eq 13, 3) := by decide +kernel
theorem dX8_told_8 : decode cX8_told 8 = .ok (.iload_n 2, 1) := by decide +kernel
theorem dX8_told_9 : decode cX8_told 9 = .ok (.iconst 0, 1) := by decide +kernel
theorem dX8_told_10 : decode cX8_told 10 = .ok (.bipush 15, 2) := by decide +kernel
theorem dX8_told_12 : decode cX8_told 12 = .ok (.invokestatic 140, 3) := by decide +kernel
theorem dX8_told_15 : decode cX8_told 15 = .ok (.ifCond .ne 5, 3) := by decide +kernel
theorem dX8_told_20 : decode cX8_told 20 = .ok (.iload_n 2, 1) := by decide +kernel
theorem dX8_told_21 : decode cX8_told 21 = .ok (.tableswitch 59 0 3 #[31, 38, 45, 52], 31) := by decide +kernel
theorem dX8_told_52 : decode cX8_told 52 = .ok (.aload_n 0, 1) := by decide +kernel
theorem dX8_told_53 : decode cX8_told 53 = .ok (.getfield 7, 3) := by decide +kernel
theorem dX8_told_56 : decode cX8_told 56 = .ok (.iload_n 1, 1) := by decide +kernel
theorem dX8_told_57 : decode cX8_told 57 = .ok (.iaload, 1) := by decide +kernel
theorem dX8_told_58 : decode cX8_told 58 = .ok (.ireturn, 1) := by decide +kernel
theorem dX8_told_59 : decode cX8_told 59 = .ok (.aload_n 0, 1) := by decide +kernel
theorem dX8_told_60 : decode cX8_told 60 = .ok (.getfield 13, 3) := by decide +kernel
theorem dX8_told_63 : decode cX8_told 63 = .ok (.iload_n 1, 1) := by decide +kernel
theorem dX8_told_64 : decode cX8_told 64 = .ok (.iaload, 1) := by decide +kernel
theorem dX8_told_65 : decode cX8_told 65 = .ok (.ireturn, 1) := by decide +kernel
theorem dX8_told_66 : decode cX8_told 66 = .ok (.aload_n 0, 1) := by decide +kernel
theorem dX8_told_67 : decode cX8_told 67 = .ok (.getfield 16, 3) := by decide +kernel
theorem dX8_told_70 : decode cX8_told 70 = .ok (.iload_n 1, 1) := by decide +kernel
theorem dX8_told_71 : decode cX8_told 71 = .ok (.iaload, 1) := by decide +kernel
theorem dX8_told_72 : decode cX8_told 72 = .ok (.ireturn, 1) := by decide +kernel
theorem dX8_told_73 : decode cX8_told 73 = .ok (.aload_n 0, 1) := by decide +kernel
theorem dX8_told_74 : decode cX8_told 74 = .ok (.getfield 25, 3) := by decide +kernel
theorem dX8_told_77 : decode cX8_told 77 = .ok (.iload_n 1, 1) := by decide +kernel
theorem dX8_told_78 : decode cX8_told 78 = .ok (.iaload, 1) := by decide +kernel
theorem dX8_told_79 : decode cX8_told 79 = .ok (.ireturn, 1) := by decide +kernel
theorem dX8_told_80 : decode cX8_told 80 = .ok (.iload_n 2, 1) := by decide +kernel
theorem dX8_told_81 : decode cX8_told 81 = .ok (.bipush 10, 2) := by decide +kernel
theorem dX8_told_83 : decode cX8_told 83 = .ok (.if_icmp .ge 19, 3) := by decide +kernel
theorem dX8_told_102 : decode cX8_told 102 = .ok (.aload_n 0, 1) := by decide +kernel
theorem dX8_told_103 : decode cX8_told 103 = .ok (.getfield 22, 3) := by decide +kernel
theorem dX8_told_106 : decode cX8_told 106 = .ok (.bipush 6, 2) := by decide +kernel
theorem dX8_told_108 : decode cX8_told 108 = .ok (.iload_n 1, 1) := by decide +kernel
theorem dX8_told_109 : decode cX8_told 109 = .ok (.imul, 1) := by decide +kernel
theorem dX8_told_110 : decode cX8_told 110 = .ok (.iload_n 2, 1) := by decide +kernel
theorem dX8_told_111 : decode cX8_told 111 = .ok (.iadd, 1) := by decide +kernel
theorem dX8_told_112 : decode cX8_told 112 = .ok (.bipush 10, 2) := by decide +kernel
theorem dX8_told_114 : decode cX8_told 114 = .ok (.isub, 1) := by decide +kernel
theorem dX8_told_115 : decode cX8_told 115 = .ok (.iaload, 1) := by decide +kernel
theorem dX8_told_116 : decode cX8_told 116 = .ok (.ireturn, 1) := by decide +kernel
theorem dX8_told_86 : decode cX8_told 86 = .ok (.aload_n 0, 1) := by decide +kernel
theorem dX8_told_87 : decode cX8_told 87 = .ok (.getfield 19, 3) := by decide +kernel
theorem dX8_told_90 : decode cX8_told 90 = .ok (.bipush 6, 2) := by decide +kernel
theorem dX8_told_92 : decode cX8_told 92 = .ok (.iload_n 1, 1) := by decide +kernel
theorem dX8_told_93 : decode cX8_told 93 = .ok (.imul, 1) := by decide +kernel
theorem dX8_told_94 : decode cX8_told 94 = .ok (.iload_n 2, 1) := by decide +kernel
theorem dX8_told_95 : decode cX8_told 95 = .ok (.iadd, 1) := by decide +kernel
theorem dX8_told_96 : decode cX8_told 96 = .ok (.iconst 4, 1) := by decide +kernel
theorem dX8_told_97 : decode cX8_told 97 = .ok (.isub, 1) := by decide +kernel
theorem dX8_told_98 : decode cX8_told 98 = .ok (.iaload, 1) := by decide +kernel
theorem dX8_told_99 : decode cX8_told 99 = .ok (.goto 17, 3) := by decide +kernel
theorem dX8_told_18 : decode cX8_told 18 = .ok (.iconst (-1), 1) := by decide +kernel
theorem dX8_told_19 : decode cX8_told 19 = .ok (.ireturn, 1) := by decide +kernel
set_option maxHeartbeats 4000000 in
set_option maxRecDepth 100000 in
/-- X8_where -/
theorem m_where (l : Launch) (G : mG) (hDD : mDD G) (o : Nat → Int32) (F : Nat → Nat → Int32) (sz : Nat) : Met l yX8_where (wU yX8_where cX8_where 1 (some .int)) { frames := 0, cells := 0, slots := 0, locals := 0 } (mPc G o F sz [.ref (mh G)]) (mQi G sz (fun r u => u = (o, F) ∧ r = o 24)) 0 0 (mA G sz) := by
  refine Met.ofW (cc := cX8_where) (maxL := 1) (ret := (some .int)) (by decide) rfl ?_
  intro p e s m args below meth c s₁ B hml hv
  obtain ⟨rfl, hsz, hP, hK⟩ := hv
  have hx := B.exec
  have hb := B.bytes
  have hr := B.returns
  have htu : ∀ w ∈ WU, w.before _ s = true := fun w h => atoms_spec (ws := (wU yX8_where cX8_where 1 (some .int))) B.pre w (List.mem_cons_of_mem _ h)
  have hown : s.vm.findClass RX8 = some m.cls := findClass_of_methodNamed B.named
  have hlocks := B.notSynchronized
  subst hsz
  have hS : va_S (mA G s.heap.size) s.heap s.heap [] := va_S.rf
  have hl := lv_entry ([.ref (mh G)]) (n := 1) (Nat.le_of_ble_eq_true rfl)
  rw [lg_entry_eq]
  generalize (lg_sl ([.ref (mh G)]) ++ List.replicate (1 - (lg_sl ([.ref (mh G)])).length) Slot.unset).toArray = ls at hl ⊢
  have hl : lv_has ls 1 [(0, .ref (mh G))] := hl
  obtain ⟨H, hHe⟩ : ∃ H : Heap, H = s.heap := ⟨_, rfl⟩
  rw [← hHe] at hP
  have hS : va_S (mA G s.heap.size) s.heap H [] := by rw [hHe]; exact va_S.rf
  refine W.heq hHe ?_
  refine lv_aload_n hx hb dX8_where_0 rfl (lv_at hl 0 rfl) ?_
  refine m_get (v := .int (o 24)) hx hb htu wu_in hown hK hP 24 (by decide) (htu _ U_43) rfl rfl dX8_where_1 ?_
  exact m_iret (v := o 24) hx hb hr hK hP hS ⟨rfl, rfl⟩ dX8_where_4 hlocks

set_option maxHeartbeats 4000000 in
set_option maxRecDepth 100000 in
/-- X8_steps -/
theorem m_steps (l : Launch) (G : mG) (hDD : mDD G) (o : Nat → Int32) (F : Nat → Nat → Int32) (sz : Nat) : Met l yX8_steps (wU yX8_steps cX8_steps 1 (some .int)) { frames := 0, cells := 0, slots := 0, locals := 0 } (mPc G o F sz [.ref (mh G)]) (mQi G sz (fun r u => u = (o, F) ∧ r = o 26)) 0 0 (mA G sz) := by
  refine Met.ofW (cc := cX8_steps) (maxL := 1) (ret := (some .int)) (by decide) rfl ?_
  intro p e s m args below meth c s₁ B hml hv
  obtain ⟨rfl, hsz, hP, hK⟩ := hv
  have hx := B.exec
  have hb := B.bytes
  have hr := B.returns
  have htu : ∀ w ∈ WU, w.before _ s = true := fun w h => atoms_spec (ws := (wU yX8_steps cX8_steps 1 (some .int))) B.pre w (List.mem_cons_of_mem _ h)
  have hown : s.vm.findClass RX8 = some m.cls := findClass_of_methodNamed B.named
  have hlocks := B.notSynchronized
  subst hsz
  have hS : va_S (mA G s.heap.size) s.heap s.heap [] := va_S.rf
  have hl := lv_entry ([.ref (mh G)]) (n := 1) (Nat.le_of_ble_eq_true rfl)
  rw [lg_entry_eq]
  generalize (lg_sl ([.ref (mh G)]) ++ List.replicate (1 - (lg_sl ([.ref (mh G)])).length) Slot.unset).toArray = ls at hl ⊢
  have hl : lv_has ls 1 [(0, .ref (mh G))] := hl
  obtain ⟨H, hHe⟩ : ∃ H : Heap, H = s.heap := ⟨_, rfl⟩
  rw [← hHe] at hP
  have hS : va_S (mA G s.heap.size) s.heap H [] := by rw [hHe]; exact va_S.rf
  refine W.heq hHe ?_
  refine lv_aload_n hx hb dX8_steps_0 rfl (lv_at hl 0 rfl) ?_
  refine m_get (v := .int (o 26)) hx hb htu wu_in hown hK hP 26 (by decide) (htu _ U_44) rfl rfl dX8_steps_1 ?_
  exact m_iret (v := o 26) hx hb hr hK hP hS ⟨rfl, rfl⟩ dX8_steps_4 hlocks

set_option maxHeartbeats 4000000 in
set_option maxRecDepth 100000 in
/-- X8_worked -/
theorem m_worked (l : Launch) (G : mG) (hDD : mDD G) (o : Nat → Int32) (F : Nat → Nat → Int32) (sz : Nat) : Met l yX8_worked (wU yX8_worked cX8_worked 1 (some .int)) { frames := 0, cells := 0, slots := 0, locals := 0 } (mPc G o F sz [.ref (mh G)]) (mQi G sz (fun r u => u = (o, F) ∧ r = o 62)) 0 0 (mA G sz) := by
  refine Met.ofW (cc := cX8_worked) (maxL := 1) (ret := (some .int)) (by decide) rfl ?_
  intro p e s m args below meth c s₁ B hml hv
  obtain ⟨rfl, hsz, hP, hK⟩ := hv
  have hx := B.exec
  have hb := B.bytes
  have hr := B.returns
  have htu : ∀ w ∈ WU, w.before _ s = true := fun w h => atoms_spec (ws := (wU yX8_worked cX8_worked 1 (some .int))) B.pre w (List.mem_cons_of_mem _ h)
  have hown : s.vm.findClass RX8 = some m.cls := findClass_of_methodNamed B.named
  have hlocks := B.notSynchronized
  subst hsz
  have hS : va_S (mA G s.heap.size) s.heap s.heap [] := va_S.rf
  have hl := lv_entry ([.ref (mh G)]) (n := 1) (Nat.le_of_ble_eq_true rfl)
  rw [lg_entry_eq]
  generalize (lg_sl ([.ref (mh G)]) ++ List.replicate (1 - (lg_sl ([.ref (mh G)])).length) Slot.unset).toArray = ls at hl ⊢
  have hl : lv_has ls 1 [(0, .ref (mh G))] := hl
  obtain ⟨H, hHe⟩ : ∃ H : Heap, H = s.heap := ⟨_, rfl⟩
  rw [← hHe] at hP
  have hS : va_S (mA G s.heap.size) s.heap H [] := by rw [hHe]; exact va_S.rf
  refine W.heq hHe ?_
  refine lv_aload_n hx hb dX8_worked_0 rfl (lv_at hl 0 rfl) ?_
  refine m_get (v := .int (o 62)) hx hb htu wu_in hown hK hP 62 (by decide) (htu _ U_218) rfl rfl dX8_worked_1 ?_
  exact m_iret (v := o 62) hx hb hr hK hP hS ⟨rfl, rfl⟩ dX8_worked_4 hlocks

set_option maxHeartbeats 4000000 in
set_option maxRecDepth 100000 in
/-- X8_stuck -/
theorem m_stuck (l : Launch) (G : mG) (hDD : mDD G) (o : Nat → Int32) (F : Nat → Nat → Int32) (sz : Nat) : Met l yX8_stuck (wU yX8_stuck cX8_stuck 1 (some .int)) { frames := 0, cells := 0, slots := 0, locals := 0 } (mPc G o F sz [.ref (mh G)]) (mQi G sz (fun r u => u = (o, F) ∧ r = o 65)) 0 0 (mA G sz) := by
  refine Met.ofW (cc := cX8_stuck) (maxL := 1) (ret := (some .int)) (by decide) rfl ?_
  intro p e s m args below meth c s₁ B hml hv
  obtain ⟨rfl, hsz, hP, hK⟩ := hv
  have hx := B.exec
  have hb := B.bytes
  have hr := B.returns
  have htu : ∀ w ∈ WU, w.before _ s = true := fun w h => atoms_spec (ws := (wU yX8_stuck cX8_stuck 1 (some .int))) B.pre w (List.mem_cons_of_mem _ h)
  have hown : s.vm.findClass RX8 = some m.cls := findClass_of_methodNamed B.named
  have hlocks := B.notSynchronized
  subst hsz
  have hS : va_S (mA G s.heap.size) s.heap s.heap [] := va_S.rf
  have hl := lv_entry ([.ref (mh G)]) (n := 1) (Nat.le_of_ble_eq_true rfl)
  rw [lg_entry_eq]
  generalize (lg_sl ([.ref (mh G)]) ++ List.replicate (1 - (lg_sl ([.ref (mh G)])).length) Slot.unset).toArray = ls at hl ⊢
  have hl : lv_has ls 1 [(0, .ref (mh G))] := hl
  obtain ⟨H, hHe⟩ : ∃ H : Heap, H = s.heap := ⟨_, rfl⟩
  rw [← hHe] at hP
  have hS : va_S (mA G s.heap.size) s.heap H [] := by rw [hHe]; exact va_S.rf
  refine W.heq hHe ?_
  refine lv_aload_n hx hb dX8_stuck_0 rfl (lv_at hl 0 rfl) ?_
  refine m_get (v := .int (o 65)) hx hb htu wu_in hown hK hP 65 (by decide) (htu _ U_223) rfl rfl dX8_stuck_1 ?_
  exact m_iret (v := o 65) hx hb hr hK hP hS ⟨rfl, rfl⟩ dX8_stuck_4 hlocks

set_option maxHeartbeats 4000000 in
set_option maxRecDepth 100000 in
/-- told -/
theorem m_told (l : Launch) (G : mG) (hDD : mDD G) (o : Nat → Int32) (F : Nat → Nat → Int32) (N : Nat) (x : Int32) (y : Int32) (h0N : o 0 = nI N) (hN : N ≤ 120) (sz : Nat) : Met l yX8_told (wU yX8_told cX8_told 3 (some .int)) { frames := 2, cells := 0, slots := 0, locals := 43 } (mPc G o F sz [.ref (mh G), .int x, .int y]) (mQi G sz (fun r u => u = (o, F) ∧ ((r = -1 ∧ ¬ ((∃ j, j < N ∧ x = nI j) ∧ ∃ w, w < 16 ∧ y = nI w)) ∨ ∃ j w, j < N ∧ x = nI j ∧ w < 16 ∧ y = nI w ∧ r = mTold F j w))) 0 0 (mA G sz) := by
  refine Met.ofW (cc := cX8_told) (maxL := 3) (ret := (some .int)) (by decide) rfl ?_
  intro p e s m args below meth c s₁ B hml hv
  obtain ⟨rfl, hsz, hP, hK⟩ := hv
  have hx := B.exec
  have hb := B.bytes
  have hr := B.returns
  have htu : ∀ w ∈ WU, w.before _ s = true := fun w h => atoms_spec (ws := (wU yX8_told cX8_told 3 (some .int))) B.pre w (List.mem_cons_of_mem _ h)
  have hown : s.vm.findClass RX8 = some m.cls := findClass_of_methodNamed B.named
  have hlocks := B.notSynchronized
  subst hsz
  have hS : va_S (mA G s.heap.size) s.heap s.heap [] := va_S.rf
  have hl := lv_entry ([.ref (mh G), .int x, .int y]) (n := 3) (Nat.le_of_ble_eq_true rfl)
  rw [lg_entry_eq]
  generalize (lg_sl ([.ref (mh G), .int x, .int y]) ++ List.replicate (3 - (lg_sl ([.ref (mh G), .int x, .int y])).length) Slot.unset).toArray = ls at hl ⊢
  have hl : lv_has ls 3 [(0, .ref (mh G)), (1, .int x), (2, .int y)] := hl
  obtain ⟨H, hHe⟩ : ∃ H : Heap, H = s.heap := ⟨_, rfl⟩
  rw [← hHe] at hP
  have hS : va_S (mA G s.heap.size) s.heap H [] := by rw [hHe]; exact va_S.rf
  refine W.heq hHe ?_
  refine lv_aload_n hx hb dX8_told_0 rfl (lv_at hl 0 rfl) ?_
  refine lv_iload_n hx hb dX8_told_1 rfl (lv_at hl 1 rfl) ?_
  refine m_ci (m_runV (As := [.int x]) (rest := []) ⟨hx, hb, hml, hown, htu⟩ (m_isNode l G hDD o F N x h0N hN H.size) (cwV 1 htu gU_X8_isNode rfl rfl rfl (by decide +kernel) ⟨Nat.le_of_ble_eq_true rfl, Nat.le_of_ble_eq_true rfl⟩) hP hK rfl hl.1 rfl (lv_room (Nat.le_of_ble_eq_true rfl)) dX8_told_2) hS (fun r_1 o_2 F_3 H locs hw_4 hP hS => ?_)
  try dsimp only at hw_4
  obtain ⟨hu, hc⟩ := hw_4
  rcases hc with ⟨g1, q, g2, g3⟩ | ⟨g1, g2⟩
  · skip
    subst g1
    obtain ⟨h91, h92⟩ := Prod.mk.inj hu
    have h91 := h91.symm
    subst h91
    have h92 := h92.symm
    subst h92
    subst g3
    refine lv_if_eq (tgt := 18) hx hb dX8_told_5 (by decide) (fun c_5 => absurd c_5 (by decide)) (fun c_5 => ?_)
    refine lv_iload_n hx hb dX8_told_8 rfl (lv_at hl 2 rfl) ?_
    refine lv_iconst (v := 0) hx hb dX8_told_9 (by decide) ?_
    refine lv_bipush (v := 15) hx hb dX8_told_10 (by decide) ?_
    refine m_ci (m_runS (As := [.int y, .int 0, .int 15]) (rest := []) ⟨hx, hb, hml, hown, htu⟩ (m_inn l G hDD o F y 0 15 H.size) (va_cwS 3 htu gU_X8_in rfl rfl rfl (by decide +kernel) ⟨Nat.le_of_ble_eq_true rfl, Nat.le_of_ble_eq_true rfl⟩) hP hK rfl hl.1 rfl (lv_room (Nat.le_of_ble_eq_true rfl)) dX8_told_12) hS (fun r_6 o_7 F_8 H locs hw_9 hP hS => ?_)
    try dsimp only at hw_9
    obtain ⟨hu2, hc2⟩ := hw_9
    rw [in_w (N := 16) (by decide) (by decide)] at hc2
    rcases hc2 with ⟨k1, w9, k2, k3⟩ | ⟨k1, k2⟩
    · skip
      subst k1
      obtain ⟨h91, h92⟩ := Prod.mk.inj hu2
      have h91 := h91.symm
      subst h91
      have h92 := h92.symm
      subst h92
      subst k3
      refine lv_if_ne (tgt := 20) hx hb dX8_told_15 (by decide) (fun c_10 => ?_) (fun c_10 => absurd c_10 (by decide))
      refine lv_iload_n hx hb dX8_told_20 rfl (lv_at hl 2 rfl) ?_
      rcases Decidable.em (nI w9 = 0) with c_11 | c_11
      · skip
        refine lv_tableIn (tgt := 52) hx hb dX8_told_21 (by rw [c_11]; decide) (by rw [c_11]; decide) (by rw [c_11]; rfl) (by decide) ?_
        refine lv_aload_n hx hb dX8_told_52 rfl (lv_at hl 0 rfl) ?_
        refine m_get (v := .ref (md G 1)) hx hb htu wu_in hown hK hP 1 (by decide) (htu _ U_2) rfl rfl dX8_told_53 ?_
        refine lv_iload_n hx hb dX8_told_56 rfl (lv_at hl 1 rfl) ?_
        refine m_ald (j := q) (v := F 1 q) hx hb hK hP 1 1 rfl (by omega) (by decide) rfl dX8_told_57 ?_
        have w9e : w9 = 0 := (nI_eq (a := w9) (b := 0) (by omega) (by omega)).mp c_11
        exact m_iret (v := F 1 q) hx hb hr hK hP hS ⟨rfl, Or.inr ⟨q, w9, g2, rfl, k2, rfl, by rw [w9e]; rfl⟩⟩ dX8_told_58 hlocks
      rcases Decidable.em (nI w9 = 1) with c_12 | c_12
      · skip
        refine lv_tableIn (tgt := 59) hx hb dX8_told_21 (by rw [c_12]; decide) (by rw [c_12]; decide) (by rw [c_12]; rfl) (by decide) ?_
        refine lv_aload_n hx hb dX8_told_59 rfl (lv_at hl 0 rfl) ?_
        refine m_get (v := .ref (md G 2)) hx hb htu wu_in hown hK hP 2 (by decide) (htu _ U_3) rfl rfl dX8_told_60 ?_
        refine lv_iload_n hx hb dX8_told_63 rfl (lv_at hl 1 rfl) ?_
        refine m_ald (j := q) (v := F 2 q) hx hb hK hP 2 2 rfl (by omega) (by decide) rfl dX8_told_64 ?_
        have w9e : w9 = 1 := (nI_eq (a := w9) (b := 1) (by omega) (by omega)).mp c_12
        exact m_iret (v := F 2 q) hx hb hr hK hP hS ⟨rfl, Or.inr ⟨q, w9, g2, rfl, k2, rfl, by rw [w9e]; rfl⟩⟩ dX8_told_65 hlocks
      rcases Decidable.em (nI w9 = 2) with c_13 | c_13
      · skip
        refine lv_tableIn (tgt := 66) hx hb dX8_told_21 (by rw [c_13]; decide) (by rw [c_13]; decide) (by rw [c_13]; rfl) (by decide) ?_
        refine lv_aload_n hx hb dX8_told_66 rfl (lv_at hl 0 rfl) ?_
        refine m_get (v := .ref (md G 3)) hx hb htu wu_in hown hK hP 3 (by decide) (htu _ U_4) rfl rfl dX8_told_67 ?_
        refine lv_iload_n hx hb dX8_told_70 rfl (lv_at hl 1 rfl) ?_
        refine m_ald (j := q) (v := F 3 q) hx hb hK hP 3 3 rfl (by omega) (by decide) rfl dX8_told_71 ?_
        have w9e : w9 = 2 := (nI_eq (a := w9) (b := 2) (by omega) (by omega)).mp c_13
        exact m_iret (v := F 3 q) hx hb hr hK hP hS ⟨rfl, Or.inr ⟨q, w9, g2, rfl, k2, rfl, by rw [w9e]; rfl⟩⟩ dX8_told_72 hlocks
      rcases Decidable.em (nI w9 = 3) with c_14 | c_14
      · skip
        refine lv_tableIn (tgt := 73) hx hb dX8_told_21 (by rw [c_14]; decide) (by rw [c_14]; decide) (by rw [c_14]; rfl) (by decide) ?_
        refine lv_aload_n hx hb dX8_told_73 rfl (lv_at hl 0 rfl) ?_
        refine m_get (v := .ref (md G 6)) hx hb htu wu_in hown hK hP 6 (by decide) (htu _ U_5) rfl rfl dX8_told_74 ?_
        refine lv_iload_n hx hb dX8_told_77 rfl (lv_at hl 1 rfl) ?_
        refine m_ald (j := q) (v := F 6 q) hx hb hK hP 6 6 rfl (by omega) (by decide) rfl dX8_told_78 ?_
        have w9e : w9 = 3 := (nI_eq (a := w9) (b := 3) (by omega) (by omega)).mp c_14
        exact m_iret (v := F 6 q) hx hb hr hK hP hS ⟨rfl, Or.inr ⟨q, w9, g2, rfl, k2, rfl, by rw [w9e]; rfl⟩⟩ dX8_told_79 hlocks
      have hout : (nI w9).toInt < 0 ∨ 3 < (nI w9).toInt := tb_out (nI w9) 0 3 (fun z h1 h2 e => by
        rcases (show z = 0 ∨ z = 1 ∨ z = 2 ∨ z = 3 by omega) with rfl | rfl | rfl | rfl
        · exact c_11 (Int32.toInt_inj.mp (e.trans (by decide)))
        · exact c_12 (Int32.toInt_inj.mp (e.trans (by decide)))
        · exact c_13 (Int32.toInt_inj.mp (e.trans (by decide)))
        · exact c_14 (Int32.toInt_inj.mp (e.trans (by decide))))
      refine lv_tableOut (tgt := 80) hx hb dX8_told_21 hout (by decide) ?_
      have w0n : w9 ≠ 0 := fun h => c_11 (by rw [h]; rfl)
      have w1n : w9 ≠ 1 := fun h => c_12 (by rw [h]; rfl)
      have w2n : w9 ≠ 2 := fun h => c_13 (by rw [h]; rfl)
      have w3n : w9 ≠ 3 := fun h => c_14 (by rw [h]; rfl)
      refine lv_iload_n hx hb dX8_told_80 rfl (lv_at hl 2 rfl) ?_
      refine lv_bipush (v := 10) hx hb dX8_told_81 (by decide) ?_
      refine lv_icmp_ge (tgt := 102) hx hb dX8_told_83 (by decide) (fun c_15 => ?_) (fun c_15 => ?_)
      · skip
        have nc_15 : 10 ≤ w9 := (nI_leI (a := 10) (b := w9) (by omega) (by omega)).mp c_15
        refine lv_aload_n hx hb dX8_told_102 rfl (lv_at hl 0 rfl) ?_
        refine m_get (v := .ref (md G 5)) hx hb htu wu_in hown hK hP 5 (by decide) (htu _ U_7) rfl rfl dX8_told_103 ?_
        refine lv_bipush (v := 6) hx hb dX8_told_106 (by decide) ?_
        refine lv_iload_n hx hb dX8_told_108 rfl (lv_at hl 1 rfl) ?_
        refine lv_imul hx hb dX8_told_109 ?_
        refine m_top (y := nI (6 * q)) (pk_mul 6 q) ?_
        refine lv_iload_n hx hb dX8_told_110 rfl (lv_at hl 2 rfl) ?_
        refine lv_iadd hx hb dX8_told_111 ?_
        refine m_top (y := nI (6 * q + w9)) (nI_add (6 * q) w9) ?_
        refine lv_bipush (v := 10) hx hb dX8_told_112 (by decide) ?_
        refine lv_isub hx hb dX8_told_114 ?_
        refine m_top (y := nI (6 * q + w9 - 10)) (pk_sub (a := 6 * q + w9) (b := 10) (by omega)) ?_
        refine m_ald (j := 6 * q + w9 - 10) (v := F 5 (6 * q + w9 - 10)) hx hb hK hP 5 5 rfl (by omega) (by decide) rfl dX8_told_115 ?_
        exact m_iret (v := F 5 (6 * q + w9 - 10)) hx hb hr hK hP hS ⟨rfl, Or.inr ⟨q, w9, g2, rfl, k2, rfl, by unfold mTold; rw [if_neg w0n, if_neg w1n, if_neg w2n, if_neg w3n, if_neg (show ¬ w9 < 10 by omega)]⟩⟩ dX8_told_116 hlocks
      · skip
        have nc_15 : ¬ 10 ≤ w9 := fun h9 => c_15 ((nI_leI (a := 10) (b := w9) (by omega) (by omega)).mpr h9)
        refine lv_aload_n hx hb dX8_told_86 rfl (lv_at hl 0 rfl) ?_
        refine m_get (v := .ref (md G 4)) hx hb htu wu_in hown hK hP 4 (by decide) (htu _ U_6) rfl rfl dX8_told_87 ?_
        refine lv_bipush (v := 6) hx hb dX8_told_90 (by decide) ?_
        refine lv_iload_n hx hb dX8_told_92 rfl (lv_at hl 1 rfl) ?_
        refine lv_imul hx hb dX8_told_93 ?_
        refine m_top (y := nI (6 * q)) (pk_mul 6 q) ?_
        refine lv_iload_n hx hb dX8_told_94 rfl (lv_at hl 2 rfl) ?_
        refine lv_iadd hx hb dX8_told_95 ?_
        refine m_top (y := nI (6 * q + w9)) (nI_add (6 * q) w9) ?_
        refine lv_iconst (v := 4) hx hb dX8_told_96 (by decide) ?_
        refine lv_isub hx hb dX8_told_97 ?_
        refine m_top (y := nI (6 * q + w9 - 4)) (pk_sub (a := 6 * q + w9) (b := 4) (by omega)) ?_
        refine m_ald (j := 6 * q + w9 - 4) (v := F 4 (6 * q + w9 - 4)) hx hb hK hP 4 4 rfl (by omega) (by decide) rfl dX8_told_98 ?_
        refine lv_goto (tgt := 116) hx hb dX8_told_99 (by decide) ?_
        exact m_iret (v := F 4 (6 * q + w9 - 4)) hx hb hr hK hP hS ⟨rfl, Or.inr ⟨q, w9, g2, rfl, k2, rfl, by unfold mTold; rw [if_neg w0n, if_neg w1n, if_neg w2n, if_neg w3n, if_pos (show w9 < 10 by omega)]⟩⟩ dX8_told_116 hlocks
    · skip
      subst k1
      obtain ⟨h91, h92⟩ := Prod.mk.inj hu2
      have h91 := h91.symm
      subst h91
      have h92 := h92.symm
      subst h92
      refine lv_if_ne (tgt := 20) hx hb dX8_told_15 (by decide) (fun c_16 => absurd (by decide) c_16) (fun c_16 => ?_)
      refine lv_iconst (v := (-1)) hx hb dX8_told_18 (by decide) ?_
      exact m_iret (v := (-1)) hx hb hr hK hP hS ⟨rfl, Or.inl ⟨rfl, fun h => k2 h.2⟩⟩ dX8_told_19 hlocks
  · skip
    subst g1
    obtain ⟨h91, h92⟩ := Prod.mk.inj hu
    have h91 := h91.symm
    subst h91
    have h92 := h92.symm
    subst h92
    refine lv_if_eq (tgt := 18) hx hb dX8_told_5 (by decide) (fun c_17 => ?_) (fun c_17 => absurd (by decide) c_17)
    refine lv_iconst (v := (-1)) hx hb dX8_told_18 (by decide) ?_
    exact m_iret (v := (-1)) hx hb hr hK hP hS ⟨rfl, Or.inl ⟨rfl, fun h => g2 h.1⟩⟩ dX8_told_19 hlocks

