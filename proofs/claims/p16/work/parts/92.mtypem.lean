theorem dX8_type_0 : decode cX8_type 0 = .ok (.aload_n 0, 1) := by decide +kernel
theorem dX8_type_1 : decode cX8_type 1 = .ok (.iload_n 1, 1) := by decide +kernel
theorem dX8_type_2 : decode cX8_type 2 = .ok (.invokevirtual 144, 3) := by decide +kernel
theorem dX8_type_5 : decode cX8_type 5 = .ok (.ifCond .ne 5, 3) := by decide +kernel
theorem dX8_type_10 : decode cX8_type 10 = .ok (.aload_n 0, 1) := by decide +kernel
theorem dX8_type_11 : decode cX8_type 11 = .ok (.invokevirtual 165, 3) := by decide +kernel
theorem dX8_type_14 : decode cX8_type 14 = .ok (.aload_n 0, 1) := by decide +kernel
theorem dX8_type_15 : decode cX8_type 15 = .ok (.getfield 28, 3) := by decide +kernel
theorem dX8_type_18 : decode cX8_type 18 = .ok (.iconst 0, 1) := by decide +kernel
theorem dX8_type_19 : decode cX8_type 19 = .ok (.iconst 0, 1) := by decide +kernel
theorem dX8_type_20 : decode cX8_type 20 = .ok (.iastore, 1) := by decide +kernel
theorem dX8_type_21 : decode cX8_type 21 = .ok (.aload_n 0, 1) := by decide +kernel
theorem dX8_type_22 : decode cX8_type 22 = .ok (.getfield 28, 3) := by decide +kernel
theorem dX8_type_25 : decode cX8_type 25 = .ok (.iconst 1, 1) := by decide +kernel
theorem dX8_type_26 : decode cX8_type 26 = .ok (.iconst 0, 1) := by decide +kernel
theorem dX8_type_27 : decode cX8_type 27 = .ok (.iastore, 1) := by decide +kernel
theorem dX8_type_28 : decode cX8_type 28 = .ok (.aload_n 0, 1) := by decide +kernel
theorem dX8_type_29 : decode cX8_type 29 = .ok (.getfield 31, 3) := by decide +kernel
theorem dX8_type_32 : decode cX8_type 32 = .ok (.iconst 0, 1) := by decide +kernel
theorem dX8_type_33 : decode cX8_type 33 = .ok (.iconst 0, 1) := by decide +kernel
theorem dX8_type_34 : decode cX8_type 34 = .ok (.iastore, 1) := by decide +kernel
theorem dX8_type_35 : decode cX8_type 35 = .ok (.aload_n 0, 1) := by decide +kernel
theorem dX8_type_36 : decode cX8_type 36 = .ok (.getfield 31, 3) := by decide +kernel
theorem dX8_type_39 : decode cX8_type 39 = .ok (.iconst 1, 1) := by decide +kernel
theorem dX8_type_40 : decode cX8_type 40 = .ok (.iconst 0, 1) := by decide +kernel
theorem dX8_type_41 : decode cX8_type 41 = .ok (.iastore, 1) := by decide +kernel
theorem dX8_type_42 : decode cX8_type 42 = .ok (.aload_n 0, 1) := by decide +kernel
theorem dX8_type_43 : decode cX8_type 43 = .ok (.iconst 0, 1) := by decide +kernel
theorem dX8_type_44 : decode cX8_type 44 = .ok (.putfield 232, 3) := by decide +kernel
theorem dX8_type_47 : decode cX8_type 47 = .ok (.aload_n 0, 1) := by decide +kernel
theorem dX8_type_48 : decode cX8_type 48 = .ok (.iconst 0, 1) := by decide +kernel
theorem dX8_type_49 : decode cX8_type 49 = .ok (.putfield 264, 3) := by decide +kernel
theorem dX8_type_52 : decode cX8_type 52 = .ok (.aload_n 0, 1) := by decide +kernel
theorem dX8_type_53 : decode cX8_type 53 = .ok (.iconst 0, 1) := by decide +kernel
theorem dX8_type_54 : decode cX8_type 54 = .ok (.putfield 254, 3) := by decide +kernel
theorem dX8_type_57 : decode cX8_type 57 = .ok (.iconst 0, 1) := by decide +kernel
theorem dX8_type_58 : decode cX8_type 58 = .ok (.istore_n 2, 1) := by decide +kernel
theorem dX8_type_59 : decode cX8_type 59 = .ok (.iload_n 2, 1) := by decide +kernel
theorem dX8_type_60 : decode cX8_type 60 = .ok (.sipush 300, 3) := by decide +kernel
theorem dX8_type_63 : decode cX8_type 63 = .ok (.if_icmp .ge 16, 3) := by decide +kernel
theorem dX8_type_79 : decode cX8_type 79 = .ok (.iconst 0, 1) := by decide +kernel
theorem dX8_type_80 : decode cX8_type 80 = .ok (.istore_n 2, 1) := by decide +kernel
theorem dX8_type_81 : decode cX8_type 81 = .ok (.iload_n 2, 1) := by decide +kernel
theorem dX8_type_82 : decode cX8_type 82 = .ok (.sipush 150, 3) := by decide +kernel
theorem dX8_type_85 : decode cX8_type 85 = .ok (.if_icmp .ge 16, 3) := by decide +kernel
theorem dX8_type_101 : decode cX8_type 101 = .ok (.aload_n 0, 1) := by decide +kernel
theorem dX8_type_102 : decode cX8_type 102 = .ok (.iload_n 1, 1) := by decide +kernel
theorem dX8_type_103 : decode cX8_type 103 = .ok (.putfield 269, 3) := by decide +kernel
theorem dX8_type_106 : decode cX8_type 106 = .ok (.aload_n 0, 1) := by decide +kernel
theorem dX8_type_107 : decode cX8_type 107 = .ok (.iload_n 1, 1) := by decide +kernel
theorem dX8_type_108 : decode cX8_type 108 = .ok (.putfield 202, 3) := by decide +kernel
theorem dX8_type_111 : decode cX8_type 111 = .ok (.aload_n 0, 1) := by decide +kernel
theorem dX8_type_112 : decode cX8_type 112 = .ok (.aload_n 0, 1) := by decide +kernel
theorem dX8_type_113 : decode cX8_type 113 = .ok (.iload_n 1, 1) := by decide +kernel
theorem dX8_type_114 : decode cX8_type 114 = .ok (.iconst 0, 1) := by decide +kernel
theorem dX8_type_115 : decode cX8_type 115 = .ok (.invokevirtual 280, 3) := by decide +kernel
theorem dX8_type_118 : decode cX8_type 118 = .ok (.putfield 295, 3) := by decide +kernel
theorem dX8_type_121 : decode cX8_type 121 = .ok (.aload_n 0, 1) := by decide +kernel
theorem dX8_type_122 : decode cX8_type 122 = .ok (.aload_n 0, 1) := by decide +kernel
theorem dX8_type_123 : decode cX8_type 123 = .ok (.getfield 184, 3) := by decide +kernel
theorem dX8_type_126 : decode cX8_type 126 = .ok (.ifCond .ne 7, 3) := by decide +kernel
theorem dX8_type_133 : decode cX8_type 133 = .ok (.iconst 0, 1) := by decide +kernel
theorem dX8_type_134 : decode cX8_type 134 = .ok (.putfield 177, 3) := by decide +kernel
theorem dX8_type_137 : decode cX8_type 137 = .ok (.aload_n 0, 1) := by decide +kernel
theorem dX8_type_138 : decode cX8_type 138 = .ok (.getfield 184, 3) := by decide +kernel
theorem dX8_type_141 : decode cX8_type 141 = .ok (.ifCond .ne 10, 3) := by decide +kernel
theorem dX8_type_151 : decode cX8_type 151 = .ok (.aload_n 0, 1) := by decide +kernel
theorem dX8_type_152 : decode cX8_type 152 = .ok (.getfield 184, 3) := by decide +kernel
theorem dX8_type_155 : decode cX8_type 155 = .ok (.ireturn, 1) := by decide +kernel
theorem dX8_type_129 : decode cX8_type 129 = .ok (.iconst 1, 1) := by decide +kernel
theorem dX8_type_130 : decode cX8_type 130 = .ok (.goto 4, 3) := by decide +kernel
theorem dX8_type_144 : decode cX8_type 144 = .ok (.aload_n 0, 1) := by decide +kernel
theorem dX8_type_145 : decode cX8_type 145 = .ok (.getfield 171, 3) := by decide +kernel
theorem dX8_type_148 : decode cX8_type 148 = .ok (.goto 7, 3) := by decide +kernel
theorem dX8_type_88 : decode cX8_type 88 = .ok (.aload_n 0, 1) := by decide +kernel
theorem dX8_type_89 : decode cX8_type 89 = .ok (.getfield 80, 3) := by decide +kernel
theorem dX8_type_92 : decode cX8_type 92 = .ok (.iload_n 2, 1) := by decide +kernel
theorem dX8_type_93 : decode cX8_type 93 = .ok (.iconst 0, 1) := by decide +kernel
theorem dX8_type_94 : decode cX8_type 94 = .ok (.iastore, 1) := by decide +kernel
theorem dX8_type_95 : decode cX8_type 95 = .ok (.iinc 2 1, 3) := by decide +kernel
theorem dX8_type_98 : decode cX8_type 98 = .ok (.goto (-17), 3) := by decide +kernel
theorem dX8_type_66 : decode cX8_type 66 = .ok (.aload_n 0, 1) := by decide +kernel
theorem dX8_type_67 : decode cX8_type 67 = .ok (.getfield 71, 3) := by decide +kernel
theorem dX8_type_70 : decode cX8_type 70 = .ok (.iload_n 2, 1) := by decide +kernel
theorem dX8_type_71 : decode cX8_type 71 = .ok (.iconst 0, 1) := by decide +kernel
theorem dX8_type_72 : decode cX8_type 72 = .ok (.iastore, 1) := by decide +kernel
theorem dX8_type_73 : decode cX8_type 73 = .ok (.iinc 2 1, 3) := by decide +kernel
theorem dX8_type_76 : decode cX8_type 76 = .ok (.goto (-17), 3) := by decide +kernel
theorem dX8_type_8 : decode cX8_type 8 = .ok (.iconst (-1), 1) := by decide +kernel
theorem dX8_type_9 : decode cX8_type 9 = .ok (.ireturn, 1) := by decide +kernel
set_option maxHeartbeats 4000000 in
set_option maxRecDepth 100000 in
/-- type -/
theorem m_type (l : Launch) (G : mG) (hDD : mDD G) (o : Nat → Int32) (F : Nat → Nat → Int32) (tr : aM) (N : Nat) (x : Int32) (hT : TRm tr N o F) (hw : TRw tr N) (sz : Nat) : Met l yX8_type (wU yX8_type cX8_type 3 (some .int)) { frames := 501, cells := 0, slots := 0, locals := 13923 } (mPc G o F sz [.ref (mh G), .int x]) (mQi G sz (fun r u => (r = -1 ∧ u = (o, F) ∧ ¬ ∃ j, j < N ∧ x = nI j) ∨ ∃ q, q < N ∧ x = nI q ∧ (∃ ix, MR (ty tr q 60 (zS q) q 0).1 ix u.1 u.2) ∧ u.1 22 = (if sto (ty tr q 60 (zS q) q 0).1 = 0 then 1 else 0) ∧ (sto (ty tr q 60 (zS q) q 0).1 = 0 → u.1 23 = nI (ty tr q 60 (zS q) q 0).2 ∧ (ty tr q 60 (zS q) q 0).2 < nT (ty tr q 60 (zS q) q 0).1) ∧ r = (if sto (ty tr q 60 (zS q) q 0).1 = 0 then nI (nV (ty tr q 60 (zS q) q 0).1) else sc (sto (ty tr q 60 (zS q) q 0).1)) ∧ (∀ k, k < 7 ∨ 45 < k → u.1 k = o k ∧ u.2 k = F k))) 0 0 (mA G sz) := by
  refine Met.ofW (cc := cX8_type) (maxL := 3) (ret := (some .int)) (by decide) rfl ?_
  intro p e s m args below meth c s₁ B hml hv
  obtain ⟨rfl, hsz, hP, hK⟩ := hv
  have hx := B.exec
  have hb := B.bytes
  have hr := B.returns
  have htu : ∀ w ∈ WU, w.before _ s = true := fun w h => atoms_spec (ws := (wU yX8_type cX8_type 3 (some .int))) B.pre w (List.mem_cons_of_mem _ h)
  have hown : s.vm.findClass RX8 = some m.cls := findClass_of_methodNamed B.named
  have hlocks := B.notSynchronized
  subst hsz
  have hS : va_S (mA G s.heap.size) s.heap s.heap [] := va_S.rf
  have hl := lv_entry ([.ref (mh G), .int x]) (n := 3) (Nat.le_of_ble_eq_true rfl)
  rw [lg_entry_eq]
  generalize (lg_sl ([.ref (mh G), .int x]) ++ List.replicate (3 - (lg_sl ([.ref (mh G), .int x])).length) Slot.unset).toArray = ls at hl ⊢
  have hl : lv_has ls 3 [(0, .ref (mh G)), (1, .int x)] := hl
  obtain ⟨H, hHe⟩ : ∃ H : Heap, H = s.heap := ⟨_, rfl⟩
  rw [← hHe] at hP
  have hS : va_S (mA G s.heap.size) s.heap H [] := by rw [hHe]; exact va_S.rf
  refine W.heq hHe ?_
  have hN := hT.2.1
  refine lv_aload_n hx hb dX8_type_0 rfl (lv_at hl 0 rfl) ?_
  refine lv_iload_n hx hb dX8_type_1 rfl (lv_at hl 1 rfl) ?_
  refine m_ci (m_runV (As := [.int x]) (rest := []) ⟨hx, hb, hml, hown, htu⟩ (m_isNode l G hDD o F N x hT.1 hN H.size) (cwV 1 htu gU_X8_isNode rfl rfl rfl (by decide +kernel) ⟨Nat.le_of_ble_eq_true rfl, Nat.le_of_ble_eq_true rfl⟩) hP hK rfl hl.1 rfl (lv_room (Nat.le_of_ble_eq_true rfl)) dX8_type_2) hS (fun r_1 o_2 F_3 H locs hw_4 hP hS => ?_)
  try dsimp only at hw_4
  obtain ⟨hu, hc⟩ := hw_4
  rcases hc with ⟨g1, q, g2, g3⟩ | ⟨g1, g2⟩
  · skip
    subst g1
    obtain ⟨h91, h92⟩ := Prod.mk.inj hu
    have h91 := h91.symm
    subst h91
    have h92 := h92.symm
    subst h92
    subst g3
    refine lv_if_ne (tgt := 10) hx hb dX8_type_5 (by decide) (fun c_5 => ?_) (fun c_5 => absurd c_5 (by decide))
    refine lv_aload_n hx hb dX8_type_10 rfl (lv_at hl 0 rfl) ?_
    refine m_cv (m_runV (As := []) (rest := []) ⟨hx, hb, hml, hown, htu⟩ (m_forgetTypes l G hDD o F  H.size) (cwV 0 htu gU_X8_forgetTypes rfl rfl rfl (by decide +kernel) ⟨Nat.le_of_ble_eq_true rfl, Nat.le_of_ble_eq_true rfl⟩) hP hK rfl hl.1 rfl (lv_room (Nat.le_of_ble_eq_true rfl)) dX8_type_11) hS (fun o_7 F_8 H locs hw_9 hP hS => ?_)
    try dsimp only at hw_9
    obtain ⟨h91, h92⟩ := Prod.mk.inj hw_9
    have h91 := h91.symm
    subst h91
    have h92 := h92.symm
    subst h92
    refine lv_aload_n hx hb dX8_type_14 rfl (lv_at hl 0 rfl) ?_
    refine m_get (v := .ref (md G 8)) hx hb htu wu_in hown hK hP 8 (by decide) (htu _ U_53) rfl rfl dX8_type_15 ?_
    refine lv_iconst (v := 0) hx hb dX8_type_18 (by decide) ?_
    refine lv_iconst (v := 0) hx hb dX8_type_19 (by decide) ?_
    refine m_ast (j := 0) (x := 0) hx hb hK hP hDD hS 7 8 rfl (by omega) (by decide) (mW_a8 _ _ _ _ _) dX8_type_20 (fun H locs hP hS => ?_)
    refine lv_aload_n hx hb dX8_type_21 rfl (lv_at hl 0 rfl) ?_
    refine m_get (v := .ref (md G 8)) hx hb htu wu_in hown hK hP 8 (by decide) (htu _ U_53) rfl rfl dX8_type_22 ?_
    refine lv_iconst (v := 1) hx hb dX8_type_25 (by decide) ?_
    refine lv_iconst (v := 0) hx hb dX8_type_26 (by decide) ?_
    refine m_ast (j := 1) (x := 0) hx hb hK hP hDD hS 7 8 rfl (by omega) (by decide) (mW_a8 _ _ _ _ _) dX8_type_27 (fun H locs hP hS => ?_)
    refine lv_aload_n hx hb dX8_type_28 rfl (lv_at hl 0 rfl) ?_
    refine m_get (v := .ref (md G 9)) hx hb htu wu_in hown hK hP 9 (by decide) (htu _ U_54) rfl rfl dX8_type_29 ?_
    refine lv_iconst (v := 0) hx hb dX8_type_32 (by decide) ?_
    refine lv_iconst (v := 0) hx hb dX8_type_33 (by decide) ?_
    refine m_ast (j := 0) (x := 0) hx hb hK hP hDD hS 8 9 rfl (by omega) (by decide) (mW_a9 _ _ _ _ _) dX8_type_34 (fun H locs hP hS => ?_)
    refine lv_aload_n hx hb dX8_type_35 rfl (lv_at hl 0 rfl) ?_
    refine m_get (v := .ref (md G 9)) hx hb htu wu_in hown hK hP 9 (by decide) (htu _ U_54) rfl rfl dX8_type_36 ?_
    refine lv_iconst (v := 1) hx hb dX8_type_39 (by decide) ?_
    refine lv_iconst (v := 0) hx hb dX8_type_40 (by decide) ?_
    refine m_ast (j := 1) (x := 0) hx hb hK hP hDD hS 8 9 rfl (by omega) (by decide) (mW_a9 _ _ _ _ _) dX8_type_41 (fun H locs hP hS => ?_)
    refine lv_aload_n hx hb dX8_type_42 rfl (lv_at hl 0 rfl) ?_
    refine lv_iconst (v := 0) hx hb dX8_type_43 (by decide) ?_
    refine m_put (ty := .int) (x := 0) hx hb htu wu_in hown hK hP hDD hS 35 (by decide) (htu _ U_55) rfl rfl (by decide +kernel) rfl rfl (mO_s35 _ _ _) dX8_type_44 (fun H locs hP hS => ?_)
    refine lv_aload_n hx hb dX8_type_47 rfl (lv_at hl 0 rfl) ?_
    refine lv_iconst (v := 0) hx hb dX8_type_48 (by decide) ?_
    refine m_put (ty := .int) (x := 0) hx hb htu wu_in hown hK hP hDD hS 42 (by decide) (htu _ U_56) rfl rfl (by decide +kernel) rfl rfl (mO_s42 _ _ _) dX8_type_49 (fun H locs hP hS => ?_)
    refine lv_aload_n hx hb dX8_type_52 rfl (lv_at hl 0 rfl) ?_
    refine lv_iconst (v := 0) hx hb dX8_type_53 (by decide) ?_
    refine m_put (ty := .int) (x := 0) hx hb htu wu_in hown hK hP hDD hS 39 (by decide) (htu _ U_57) rfl rfl (by decide +kernel) rfl rfl (mO_s39 _ _ _) dX8_type_54 (fun H locs hP hS => ?_)
    refine lv_iconst (v := 0) hx hb dX8_type_57 (by decide) ?_
    refine lv_istore_n (lv' := [(2, .int 0), (0, .ref (mh G)), (1, .int (nI q))]) hx hb dX8_type_58 rfl hl (by decide) rfl (fun ls hl => ?_)
    refine w_loop (fun j H locs k sl g => ∃ (i1 : Nat) (F1 : Nat → Nat → Int32) (ls : Array Slot), i1 + j = 300 ∧ (∀ y, y < i1 → F1 36 y = 0) ∧ (∀ k, k ≠ 36 → F1 k = fput (fput (fput (fput F 8 0 0) 8 1 0) 9 0 0) 9 1 0 k) ∧ k = 0 ∧ sl = 0 ∧ mP G (upd (upd (upd (upd (upd (upd (upd (upd (upd (upd (upd (upd (upd (upd (upd o 7 2) 14 0) 16 0) 22 0) 24 ((-9))) 26 0) 27 0) 28 0) 31 0) 32 0) 33 0) 34 0) 35 0) 42 0) 39 0) F1 H ∧ va_S (mA G s.heap.size) s.heap H locs ∧ lv_has ls 3 [(2, .int (nI i1)), (0, .ref (mh G)), (1, .int (nI q))] ∧ g = F0 m 59 ls []) ?_ ?_ 300 _ _ _ _ _ ⟨0, fput (fput (fput (fput F 8 0 0) 8 1 0) 9 0 0) 9 1 0, ls, by omega, (fun y hy => absurd hy (by omega)), (fun k _ => rfl), rfl, rfl, hP, hS, lv_sub hl [0, 1, 2] rfl, rfl⟩
    · intro H locs k sl g hI
      obtain ⟨i1, F1, ls, hi10, hi11, hi12, rfl, rfl, hP, hS, hl, rfl⟩ := hI
      refine lv_iload_n hx hb dX8_type_59 rfl (lv_at hl 0 rfl) ?_
      refine lv_sipush (v := 300) hx hb dX8_type_60 (by decide) ?_
      refine lv_icmp_ge (tgt := 79) hx hb dX8_type_63 (by decide) (fun c_10 => ?_) (fun c_10 => absurd (nI_le (a := 300) (by omega) (by omega)) c_10)
      refine lv_iconst (v := 0) hx hb dX8_type_79 (by decide) ?_
      refine lv_istore_n (lv' := [(2, .int 0), (0, .ref (mh G)), (1, .int (nI q))]) hx hb dX8_type_80 rfl hl (by decide) rfl (fun ls hl => ?_)
      refine w_loop (fun j H locs k sl g => ∃ (i2 : Nat) (F2 : Nat → Nat → Int32) (ls : Array Slot), i2 + j = 150 ∧ (∀ y, y < i2 → F2 40 y = 0) ∧ (∀ k, k ≠ 40 → F2 k = F1 k) ∧ k = 0 ∧ sl = 0 ∧ mP G (upd (upd (upd (upd (upd (upd (upd (upd (upd (upd (upd (upd (upd (upd (upd o 7 2) 14 0) 16 0) 22 0) 24 ((-9))) 26 0) 27 0) 28 0) 31 0) 32 0) 33 0) 34 0) 35 0) 42 0) 39 0) F2 H ∧ va_S (mA G s.heap.size) s.heap H locs ∧ lv_has ls 3 [(2, .int (nI i2)), (0, .ref (mh G)), (1, .int (nI q))] ∧ g = F0 m 81 ls []) ?_ ?_ 150 _ _ _ _ _ ⟨0, F1, ls, by omega, (fun y hy => absurd hy (by omega)), (fun k _ => rfl), rfl, rfl, hP, hS, lv_sub hl [0, 1, 2] rfl, rfl⟩
      · intro H locs k sl g hI
        obtain ⟨i2, F2, ls, hi20, hi21, hi22, rfl, rfl, hP, hS, hl, rfl⟩ := hI
        refine lv_iload_n hx hb dX8_type_81 rfl (lv_at hl 0 rfl) ?_
        refine lv_sipush (v := 150) hx hb dX8_type_82 (by decide) ?_
        refine lv_icmp_ge (tgt := 101) hx hb dX8_type_85 (by decide) (fun c_11 => ?_) (fun c_11 => absurd (nI_le (a := 150) (by omega) (by omega)) c_11)
        refine lv_aload_n hx hb dX8_type_101 rfl (lv_at hl 1 rfl) ?_
        refine lv_iload_n hx hb dX8_type_102 rfl (lv_at hl 2 rfl) ?_
        refine m_put (ty := .int) (x := nI q) hx hb htu wu_in hown hK hP hDD hS 45 (by decide) (htu _ U_60) rfl rfl (by decide +kernel) rfl rfl (mO_s45 _ _ _) dX8_type_103 (fun H locs hP hS => ?_)
        refine lv_aload_n hx hb dX8_type_106 rfl (lv_at hl 1 rfl) ?_
        refine lv_iload_n hx hb dX8_type_107 rfl (lv_at hl 2 rfl) ?_
        refine m_put (ty := .int) (x := nI q) hx hb htu wu_in hown hK hP hDD hS 25 (by decide) (htu _ U_61) rfl rfl (by decide +kernel) rfl rfl (mO_s25 _ _ _) dX8_type_108 (fun H locs hP hS => ?_)
        have eF : ∀ k, k ≠ 36 → k ≠ 40 → F2 k = fput (fput (fput (fput F 8 0 0) 8 1 0) 9 0 0) 9 1 0 k := fun k h1 h2 => (hi22 k h2).trans (hi12 k h1)
        have hkO : ∀ k, (k < 7 ∨ 45 < k) → (upd (upd (upd (upd (upd (upd (upd (upd (upd (upd (upd (upd (upd (upd (upd (upd (upd o 7 2) 14 0) 16 0) 22 0) 24 ((-9))) 26 0) 27 0) 28 0) 31 0) 32 0) 33 0) 34 0) 35 0) 42 0) 39 0) 45 (nI q)) 25 (nI q)) k = o k := fun k hk => by repeat rw [upd_n (by omega)]
        have hkF : ∀ k, (k < 7 ∨ 45 < k) → F2 k = F k := fun k hk => by rw [eF k (by omega) (by omega), fput_off (by omega), fput_off (by omega), fput_off (by omega), fput_off (by omega)]
        have hT2 : TRm tr N (upd (upd (upd (upd (upd (upd (upd (upd (upd (upd (upd (upd (upd (upd (upd (upd (upd o 7 2) 14 0) 16 0) 22 0) 24 ((-9))) 26 0) 27 0) 28 0) 31 0) 32 0) 33 0) 34 0) 35 0) 42 0) 39 0) 45 (nI q)) 25 (nI q)) F2 := hT.keep (u := (upd (upd (upd (upd (upd (upd (upd (upd (upd (upd (upd (upd (upd (upd (upd (upd (upd o 7 2) 14 0) 16 0) 22 0) 24 ((-9))) 26 0) 27 0) 28 0) 31 0) 32 0) 33 0) 34 0) 35 0) 42 0) 39 0) 45 (nI q)) 25 (nI q), F2)) (fun k hk => ⟨hkO k (Or.inl hk), hkF k (Or.inl hk)⟩)
        have hTS : TS tr N q (fun _ => False) (zS q) (fun _ _ => 0) 0 0 (upd (upd (upd (upd (upd (upd (upd (upd (upd (upd (upd (upd (upd (upd (upd (upd (upd o 7 2) 14 0) 16 0) 22 0) 24 ((-9))) 26 0) 27 0) 28 0) 31 0) 32 0) 33 0) 34 0) 35 0) 42 0) 39 0) 45 (nI q)) 25 (nI q)) F2 := zS_ts hT2 g2 ⟨rfl, rfl, rfl, rfl, rfl, rfl, rfl, rfl⟩ (by rw [eF 8 (by decide) (by decide), eF 9 (by decide) (by decide)]; exact ⟨rfl, rfl, rfl, rfl⟩) (fun i hi => by rw [hi22 36 (by decide)]; exact hi11 i (by omega)) (fun i hi => hi21 i (by omega)) ⟨rfl, rfl, rfl, rfl, rfl, rfl⟩
        refine lv_aload_n hx hb dX8_type_111 rfl (lv_at hl 1 rfl) ?_
        refine lv_aload_n hx hb dX8_type_112 rfl (lv_at hl 1 rfl) ?_
        refine lv_iload_n hx hb dX8_type_113 rfl (lv_at hl 2 rfl) ?_
        refine lv_iconst (v := 0) hx hb dX8_type_114 (by decide) ?_
        refine m_ci (m_runV (As := [.int (nI q), .int 0]) (rest := [.ref (mh G)]) ⟨hx, hb, hml, hown, htu⟩ (m_typing_all 60 l G hDD (upd (upd (upd (upd (upd (upd (upd (upd (upd (upd (upd (upd (upd (upd (upd (upd (upd o 7 2) 14 0) 16 0) 22 0) 24 ((-9))) 26 0) 27 0) 28 0) 31 0) 32 0) 33 0) 34 0) 35 0) 42 0) 39 0) 45 (nI q)) 25 (nI q)) F2 tr N q ((fun _ => False)) (zS q) ((fun _ _ => 0)) 0 0 q 0 0 0 hTS g2 g2 rfl ((cv_top _ tr q)) ((by decide)) ((by decide)) rfl ((by decide)) ((zS_bnd hT hw g2)) ((by have := cnt_all hT hw (k := 60) g2; omega)) ((fun _ => by decide)) rfl ((Nat.le_refl 60)) H.size) (cwV 2 htu gU_X8_typing rfl rfl rfl (by decide +kernel) ⟨Nat.le_of_ble_eq_true rfl, Nat.le_of_ble_eq_true rfl⟩) hP hK rfl hl.1 rfl (lv_room (Nat.le_of_ble_eq_true rfl)) dX8_type_115) hS (fun r_12 o_13 F_14 H locs hw_15 hP hS => ?_)
        try dsimp only at hw_15
        obtain ⟨⟨ix1, lf1, an1, gs1, X⟩, hv1⟩ := hw_15
        have hM := X.1.1
        refine m_put (ty := .int) (x := r_12) hx hb htu wu_in hown hK hP hDD hS 23 (by decide) (htu _ U_62) rfl rfl (by decide +kernel) rfl rfl (mO_s23 _ _ _) dX8_type_118 (fun H locs hP hS => ?_)
        refine lv_aload_n hx hb dX8_type_121 rfl (lv_at hl 1 rfl) ?_
        refine lv_aload_n hx hb dX8_type_122 rfl (lv_at hl 1 rfl) ?_
        refine m_get (v := .int (sc (sto (ty tr q 60 (zS q) q 0).1))) hx hb htu wu_in hown hK hP 27 (by decide) (htu _ U_45) rfl (m_v hM.1.2.2.2.2.1) dX8_type_123 ?_
        refine lv_if_ne (tgt := 133) hx hb dX8_type_126 (by decide) (fun c_16 => ?_) (fun c_16 => ?_)
        · skip
          have gs9 : sto (ty tr q 60 (zS q) q 0).1 ≠ 0 := fun h => c_16 (sc_0.mpr h)
          refine lv_iconst (v := 0) hx hb dX8_type_133 (by decide) ?_
          refine m_put (ty := .boolean) (x := 0) hx hb htu wu_in hown hK hP hDD hS 22 (by decide) (htu _ U_42) rfl rfl (by decide +kernel) rfl rfl (mO_s22 _ _ _) dX8_type_134 (fun H locs hP hS => ?_)
          refine lv_aload_n hx hb dX8_type_137 rfl (lv_at hl 1 rfl) ?_
          refine m_get (v := .int (sc (sto (ty tr q 60 (zS q) q 0).1))) hx hb htu wu_in hown hK hP 27 (by decide) (htu _ U_45) rfl (m_v hM.1.2.2.2.2.1) dX8_type_138 ?_
          refine lv_if_ne (tgt := 151) hx hb dX8_type_141 (by decide) (fun c_17 => ?_) (fun c_17 => absurd c_17 c_16)
          refine lv_aload_n hx hb dX8_type_151 rfl (lv_at hl 1 rfl) ?_
          refine m_get (v := .int (sc (sto (ty tr q 60 (zS q) q 0).1))) hx hb htu wu_in hown hK hP 27 (by decide) (htu _ U_45) rfl (m_v hM.1.2.2.2.2.1) dX8_type_152 ?_
          exact m_iret (v := sc (sto (ty tr q 60 (zS q) q 0).1)) hx hb hr hK hP hS (Or.inr ⟨q, g2, rfl, ⟨ix1, hM⟩, (by rw [if_neg gs9]; rfl), (fun h => absurd h gs9), (by rw [if_neg gs9]), (fun k hk => ⟨by show (upd (upd o_13 23 r_12) 22 0) k = o k; rw [upd_n (by omega), upd_n (by omega)]; exact (X.2.2.2.2.2.2.1 k (by unfold LT; simp only [List.mem_cons, List.not_mem_nil, or_false]; omega)).1.trans (hkO k hk), (X.2.2.2.2.2.2.1 k (by unfold LT; simp only [List.mem_cons, List.not_mem_nil, or_false]; omega)).2.trans (hkF k hk)⟩)⟩) dX8_type_155 hlocks
        · skip
          have gs9 : sto (ty tr q 60 (zS q) q 0).1 = 0 := sc_0.mp c_16
          refine lv_iconst (v := 1) hx hb dX8_type_129 (by decide) ?_
          refine lv_goto (tgt := 134) hx hb dX8_type_130 (by decide) ?_
          refine m_put (ty := .boolean) (x := 1) hx hb htu wu_in hown hK hP hDD hS 22 (by decide) (htu _ U_42) rfl rfl (by decide +kernel) rfl rfl (mO_s22 _ _ _) dX8_type_134 (fun H locs hP hS => ?_)
          refine lv_aload_n hx hb dX8_type_137 rfl (lv_at hl 1 rfl) ?_
          refine m_get (v := .int (sc (sto (ty tr q 60 (zS q) q 0).1))) hx hb htu wu_in hown hK hP 27 (by decide) (htu _ U_45) rfl (m_v hM.1.2.2.2.2.1) dX8_type_138 ?_
          refine lv_if_ne (tgt := 151) hx hb dX8_type_141 (by decide) (fun c_18 => absurd c_16 c_18) (fun c_18 => ?_)
          refine lv_aload_n hx hb dX8_type_144 rfl (lv_at hl 1 rfl) ?_
          refine m_get (v := .int (nI (nV (ty tr q 60 (zS q) q 0).1))) hx hb htu wu_in hown hK hP 14 (by decide) (htu _ U_40) rfl (m_v hM.1.2.1) dX8_type_145 ?_
          refine lv_goto (tgt := 155) hx hb dX8_type_148 (by decide) ?_
          exact m_iret (v := nI (nV (ty tr q 60 (zS q) q 0).1)) hx hb hr hK hP hS (Or.inr ⟨q, g2, rfl, ⟨ix1, hM⟩, (by rw [if_pos gs9]; rfl), (fun h => hv1 h), (by rw [if_pos gs9]), (fun k hk => ⟨by show (upd (upd o_13 23 r_12) 22 1) k = o k; rw [upd_n (by omega), upd_n (by omega)]; exact (X.2.2.2.2.2.2.1 k (by unfold LT; simp only [List.mem_cons, List.not_mem_nil, or_false]; omega)).1.trans (hkO k hk), (X.2.2.2.2.2.2.1 k (by unfold LT; simp only [List.mem_cons, List.not_mem_nil, or_false]; omega)).2.trans (hkF k hk)⟩)⟩) dX8_type_155 hlocks
      · intro j ih9 H locs k sl g hI
        obtain ⟨i2, F2, ls, hi20, hi21, hi22, rfl, rfl, hP, hS, hl, rfl⟩ := hI
        refine lv_iload_n hx hb dX8_type_81 rfl (lv_at hl 0 rfl) ?_
        refine lv_sipush (v := 150) hx hb dX8_type_82 (by decide) ?_
        refine lv_icmp_ge (tgt := 101) hx hb dX8_type_85 (by decide) (fun c_19 => absurd c_19 (nI_ge (b := 150) (by omega) (by omega))) (fun c_19 => ?_)
        refine lv_aload_n hx hb dX8_type_88 rfl (lv_at hl 1 rfl) ?_
        refine m_get (v := .ref (md G 40)) hx hb htu wu_in hown hK hP 40 (by decide) (htu _ U_59) rfl rfl dX8_type_89 ?_
        refine lv_iload_n hx hb dX8_type_92 rfl (lv_at hl 0 rfl) ?_
        refine lv_iconst (v := 0) hx hb dX8_type_93 (by decide) ?_
        refine m_ast (j := i2) (x := 0) hx hb hK hP hDD hS 24 40 rfl (by omega) (by decide) (mW_a40 _ _ _ _ _) dX8_type_94 (fun H locs hP hS => ?_)
        refine lv_iinc (v := nI (i2 + 1)) (lv' := [(2, .int (nI (i2 + 1))), (0, .ref (mh G)), (1, .int (nI q))]) hx hb dX8_type_95 hl (k := 0) rfl (nI_1 i2) (by decide) rfl (fun ls hl => ?_)
        refine lv_goto (tgt := 81) hx hb dX8_type_98 (by decide) ?_
        exact ih9 _ _ _ _ _ ⟨i2 + 1, fput F2 40 i2 0, ls, by omega, (fun y hy => by rcases Nat.lt_or_ge y i2 with h9 | h9; rw [fput_j (by omega)]; exact hi21 y h9; rw [show y = i2 by omega]; exact fput_s), (fun k hk => by show (if k = 40 then _ else F2 k) = _; rw [if_neg hk]; exact hi22 k hk), rfl, rfl, hP, hS, lv_sub hl [0, 1, 2] rfl, rfl⟩
    · intro j ih9 H locs k sl g hI
      obtain ⟨i1, F1, ls, hi10, hi11, hi12, rfl, rfl, hP, hS, hl, rfl⟩ := hI
      refine lv_iload_n hx hb dX8_type_59 rfl (lv_at hl 0 rfl) ?_
      refine lv_sipush (v := 300) hx hb dX8_type_60 (by decide) ?_
      refine lv_icmp_ge (tgt := 79) hx hb dX8_type_63 (by decide) (fun c_20 => absurd c_20 (nI_ge (b := 300) (by omega) (by omega))) (fun c_20 => ?_)
      refine lv_aload_n hx hb dX8_type_66 rfl (lv_at hl 1 rfl) ?_
      refine m_get (v := .ref (md G 36)) hx hb htu wu_in hown hK hP 36 (by decide) (htu _ U_58) rfl rfl dX8_type_67 ?_
      refine lv_iload_n hx hb dX8_type_70 rfl (lv_at hl 0 rfl) ?_
      refine lv_iconst (v := 0) hx hb dX8_type_71 (by decide) ?_
      refine m_ast (j := i1) (x := 0) hx hb hK hP hDD hS 21 36 rfl (by omega) (by decide) (mW_a36 _ _ _ _ _) dX8_type_72 (fun H locs hP hS => ?_)
      refine lv_iinc (v := nI (i1 + 1)) (lv' := [(2, .int (nI (i1 + 1))), (0, .ref (mh G)), (1, .int (nI q))]) hx hb dX8_type_73 hl (k := 0) rfl (nI_1 i1) (by decide) rfl (fun ls hl => ?_)
      refine lv_goto (tgt := 59) hx hb dX8_type_76 (by decide) ?_
      exact ih9 _ _ _ _ _ ⟨i1 + 1, fput F1 36 i1 0, ls, by omega, (fun y hy => by rcases Nat.lt_or_ge y i1 with h9 | h9; rw [fput_j (by omega)]; exact hi11 y h9; rw [show y = i1 by omega]; exact fput_s), (fun k hk => by show (if k = 36 then _ else F1 k) = _; rw [if_neg hk]; exact hi12 k hk), rfl, rfl, hP, hS, lv_sub hl [0, 1, 2] rfl, rfl⟩
  · skip
    subst g1
    obtain ⟨h91, h92⟩ := Prod.mk.inj hu
    have h91 := h91.symm
    subst h91
    have h92 := h92.symm
    subst h92
    refine lv_if_ne (tgt := 10) hx hb dX8_type_5 (by decide) (fun c_21 => absurd (by decide) c_21) (fun c_21 => ?_)
    refine lv_iconst (v := (-1)) hx hb dX8_type_8 (by decide) ?_
    exact m_iret (v := (-1)) hx hb hr hK hP hS (Or.inl ⟨rfl, rfl, g2⟩) dX8_type_9 hlocks

