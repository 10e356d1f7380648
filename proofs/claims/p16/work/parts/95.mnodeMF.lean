theorem dX8_field_0 : decode cX8_field 0 = .ok (.aload_n 0, 1) := by decide +kernel
theorem dX8_field_1 : decode cX8_field 1 = .ok (.iload_n 1, 1) := by decide +kernel
theorem dX8_field_2 : decode cX8_field 2 = .ok (.invokevirtual 144, 3) := by decide +kernel
theorem dX8_field_5 : decode cX8_field 5 = .ok (.ifCond .eq 30, 3) := by decide +kernel
theorem dX8_field_8 : decode cX8_field 8 = .ok (.iload_n 2, 1) := by decide +kernel
theorem dX8_field_9 : decode cX8_field 9 = .ok (.iconst 0, 1) := by decide +kernel
theorem dX8_field_10 : decode cX8_field 10 = .ok (.bipush 25, 2) := by decide +kernel
theorem dX8_field_12 : decode cX8_field 12 = .ok (.invokestatic 140, 3) := by decide +kernel
theorem dX8_field_15 : decode cX8_field 15 = .ok (.ifCond .eq 20, 3) := by decide +kernel
theorem dX8_field_18 : decode cX8_field 18 = .ok (.aload_n 0, 1) := by decide +kernel
theorem dX8_field_19 : decode cX8_field 19 = .ok (.iload_n 3, 1) := by decide +kernel
theorem dX8_field_20 : decode cX8_field 20 = .ok (.invokevirtual 155, 3) := by decide +kernel
theorem dX8_field_23 : decode cX8_field 23 = .ok (.ifCond .eq 12, 3) := by decide +kernel
theorem dX8_field_26 : decode cX8_field 26 = .ok (.aload_n 0, 1) := by decide +kernel
theorem dX8_field_27 : decode cX8_field 27 = .ok (.iload_n 1, 1) := by decide +kernel
theorem dX8_field_28 : decode cX8_field 28 = .ok (.iload_n 3, 1) := by decide +kernel
theorem dX8_field_29 : decode cX8_field 29 = .ok (.invokevirtual 158, 3) := by decide +kernel
theorem dX8_field_32 : decode cX8_field 32 = .ok (.ifCond .eq 5, 3) := by decide +kernel
theorem dX8_field_35 : decode cX8_field 35 = .ok (.iconst (-1), 1) := by decide +kernel
theorem dX8_field_36 : decode cX8_field 36 = .ok (.ireturn, 1) := by decide +kernel
theorem dX8_field_37 : decode cX8_field 37 = .ok (.aload_n 0, 1) := by decide +kernel
theorem dX8_field_38 : decode cX8_field 38 = .ok (.getfield 7, 3) := by decide +kernel
theorem dX8_field_41 : decode cX8_field 41 = .ok (.iload_n 1, 1) := by decide +kernel
theorem dX8_field_42 : decode cX8_field 42 = .ok (.iaload, 1) := by decide +kernel
theorem dX8_field_43 : decode cX8_field 43 = .ok (.iconst 5, 1) := by decide +kernel
theorem dX8_field_44 : decode cX8_field 44 = .ok (.if_icmp .ne 7, 3) := by decide +kernel
theorem dX8_field_51 : decode cX8_field 51 = .ok (.iconst 0, 1) := by decide +kernel
theorem dX8_field_52 : decode cX8_field 52 = .ok (.istore 4, 2) := by decide +kernel
theorem dX8_field_54 : decode cX8_field 54 = .ok (.iload 4, 2) := by decide +kernel
theorem dX8_field_56 : decode cX8_field 56 = .ok (.ifCond .eq 28, 3) := by decide +kernel
theorem dX8_field_84 : decode cX8_field 84 = .ok (.iload 4, 2) := by decide +kernel
theorem dX8_field_86 : decode cX8_field 86 = .ok (.ifCond .eq 14, 3) := by decide +kernel
theorem dX8_field_100 : decode cX8_field 100 = .ok (.bipush (-4), 2) := by decide +kernel
theorem dX8_field_102 : decode cX8_field 102 = .ok (.ireturn, 1) := by decide +kernel
theorem dX8_field_47 : decode cX8_field 47 = .ok (.iconst 1, 1) := by decide +kernel
theorem dX8_field_48 : decode cX8_field 48 = .ok (.goto 4, 3) := by decide +kernel
theorem dX8_field_59 : decode cX8_field 59 = .ok (.aload_n 0, 1) := by decide +kernel
theorem dX8_field_60 : decode cX8_field 60 = .ok (.getfield 16, 3) := by decide +kernel
theorem dX8_field_63 : decode cX8_field 63 = .ok (.iload_n 1, 1) := by decide +kernel
theorem dX8_field_64 : decode cX8_field 64 = .ok (.iaload, 1) := by decide +kernel
theorem dX8_field_65 : decode cX8_field 65 = .ok (.bipush 6, 2) := by decide +kernel
theorem dX8_field_67 : decode cX8_field 67 = .ok (.if_icmp .ne 17, 3) := by decide +kernel
theorem dX8_field_89 : decode cX8_field 89 = .ok (.aload_n 0, 1) := by decide +kernel
theorem dX8_field_90 : decode cX8_field 90 = .ok (.iload_n 1, 1) := by decide +kernel
theorem dX8_field_91 : decode cX8_field 91 = .ok (.iload_n 2, 1) := by decide +kernel
theorem dX8_field_92 : decode cX8_field 92 = .ok (.invokevirtual 161, 3) := by decide +kernel
theorem dX8_field_95 : decode cX8_field 95 = .ok (.bipush (-9), 2) := by decide +kernel
theorem dX8_field_97 : decode cX8_field 97 = .ok (.if_icmp .eq 6, 3) := by decide +kernel
theorem dX8_field_103 : decode cX8_field 103 = .ok (.aload_n 0, 1) := by decide +kernel
theorem dX8_field_104 : decode cX8_field 104 = .ok (.getfield 16, 3) := by decide +kernel
theorem dX8_field_107 : decode cX8_field 107 = .ok (.iload_n 1, 1) := by decide +kernel
theorem dX8_field_108 : decode cX8_field 108 = .ok (.iaload, 1) := by decide +kernel
theorem dX8_field_109 : decode cX8_field 109 = .ok (.istore 5, 2) := by decide +kernel
theorem dX8_field_111 : decode cX8_field 111 = .ok (.aload_n 0, 1) := by decide +kernel
theorem dX8_field_112 : decode cX8_field 112 = .ok (.getfield 19, 3) := by decide +kernel
theorem dX8_field_115 : decode cX8_field 115 = .ok (.bipush 6, 2) := by decide +kernel
theorem dX8_field_117 : decode cX8_field 117 = .ok (.iload_n 1, 1) := by decide +kernel
theorem dX8_field_118 : decode cX8_field 118 = .ok (.imul, 1) := by decide +kernel
theorem dX8_field_119 : decode cX8_field 119 = .ok (.iload 5, 2) := by decide +kernel
theorem dX8_field_121 : decode cX8_field 121 = .ok (.iadd, 1) := by decide +kernel
theorem dX8_field_122 : decode cX8_field 122 = .ok (.iload_n 3, 1) := by decide +kernel
theorem dX8_field_123 : decode cX8_field 123 = .ok (.iastore, 1) := by decide +kernel
theorem dX8_field_124 : decode cX8_field 124 = .ok (.aload_n 0, 1) := by decide +kernel
theorem dX8_field_125 : decode cX8_field 125 = .ok (.getfield 22, 3) := by decide +kernel
theorem dX8_field_128 : decode cX8_field 128 = .ok (.bipush 6, 2) := by decide +kernel
theorem dX8_field_130 : decode cX8_field 130 = .ok (.iload_n 1, 1) := by decide +kernel
theorem dX8_field_131 : decode cX8_field 131 = .ok (.imul, 1) := by decide +kernel
theorem dX8_field_132 : decode cX8_field 132 = .ok (.iload 5, 2) := by decide +kernel
theorem dX8_field_134 : decode cX8_field 134 = .ok (.iadd, 1) := by decide +kernel
theorem dX8_field_135 : decode cX8_field 135 = .ok (.iload_n 2, 1) := by decide +kernel
theorem dX8_field_136 : decode cX8_field 136 = .ok (.iastore, 1) := by decide +kernel
theorem dX8_field_137 : decode cX8_field 137 = .ok (.aload_n 0, 1) := by decide +kernel
theorem dX8_field_138 : decode cX8_field 138 = .ok (.getfield 25, 3) := by decide +kernel
theorem dX8_field_141 : decode cX8_field 141 = .ok (.iload_n 3, 1) := by decide +kernel
theorem dX8_field_142 : decode cX8_field 142 = .ok (.iload_n 1, 1) := by decide +kernel
theorem dX8_field_143 : decode cX8_field 143 = .ok (.iastore, 1) := by decide +kernel
theorem dX8_field_144 : decode cX8_field 144 = .ok (.aload_n 0, 1) := by decide +kernel
theorem dX8_field_145 : decode cX8_field 145 = .ok (.getfield 16, 3) := by decide +kernel
theorem dX8_field_148 : decode cX8_field 148 = .ok (.iload_n 1, 1) := by decide +kernel
theorem dX8_field_149 : decode cX8_field 149 = .ok (.dup2, 1) := by decide +kernel
theorem dX8_field_150 : decode cX8_field 150 = .ok (.iaload, 1) := by decide +kernel
theorem dX8_field_151 : decode cX8_field 151 = .ok (.iconst 1, 1) := by decide +kernel
theorem dX8_field_152 : decode cX8_field 152 = .ok (.iadd, 1) := by decide +kernel
theorem dX8_field_153 : decode cX8_field 153 = .ok (.iastore, 1) := by decide +kernel
theorem dX8_field_154 : decode cX8_field 154 = .ok (.aload_n 0, 1) := by decide +kernel
theorem dX8_field_155 : decode cX8_field 155 = .ok (.invokevirtual 165, 3) := by decide +kernel
theorem dX8_field_158 : decode cX8_field 158 = .ok (.aload_n 0, 1) := by decide +kernel
theorem dX8_field_159 : decode cX8_field 159 = .ok (.getfield 16, 3) := by decide +kernel
theorem dX8_field_162 : decode cX8_field 162 = .ok (.iload_n 1, 1) := by decide +kernel
theorem dX8_field_163 : decode cX8_field 163 = .ok (.iaload, 1) := by decide +kernel
theorem dX8_field_164 : decode cX8_field 164 = .ok (.ireturn, 1) := by decide +kernel
theorem dX8_field_70 : decode cX8_field 70 = .ok (.aload_n 0, 1) := by decide +kernel
theorem dX8_field_71 : decode cX8_field 71 = .ok (.iload_n 1, 1) := by decide +kernel
theorem dX8_field_72 : decode cX8_field 72 = .ok (.iload_n 2, 1) := by decide +kernel
theorem dX8_field_73 : decode cX8_field 73 = .ok (.invokevirtual 161, 3) := by decide +kernel
theorem dX8_field_76 : decode cX8_field 76 = .ok (.bipush (-9), 2) := by decide +kernel
theorem dX8_field_78 : decode cX8_field 78 = .ok (.if_icmp .ne 6, 3) := by decide +kernel
theorem dX8_field_81 : decode cX8_field 81 = .ok (.bipush (-2), 2) := by decide +kernel
theorem dX8_field_83 : decode cX8_field 83 = .ok (.ireturn, 1) := by decide +kernel
set_option maxHeartbeats 4000000 in
set_option maxRecDepth 100000 in
/-- field -/
theorem m_field (l : Launch) (G : mG) (hDD : mDD G) (o : Nat → Int32) (F : Nat → Nat → Int32) (tr : aM) (N : Nat) (rk : Nat → Nat) (x : Int32) (y : Int32) (w9 : Int32) (hT : TRm tr N o F) (hf : TRf tr N F) (hrk : ∀ c, tr 3 c ≠ 0 → rk (tr 3 c - 1) < rk c) (sz : Nat) : Met l yX8_field (wU yX8_field cX8_field 6 (some .int)) { frames := 3, cells := 0, slots := 0, locals := 64 } (mPc G o F sz [.ref (mh G), .int x, .int y, .int w9]) (mQi G sz (fun r u => (u = (o, F) ∧ r = -1 ∧ ¬ ∃ q y9 p9, q < N ∧ x = nI q ∧ y9 < 26 ∧ y = nI y9 ∧ p9 < N ∧ w9 = nI p9 ∧ F 6 p9 = -9 ∧ ¬ Wi tr q p9) ∨ ∃ q y9 p9, (q < N ∧ x = nI q ∧ y9 < 26 ∧ y = nI y9 ∧ p9 < N ∧ w9 = nI p9 ∧ F 6 p9 = -9 ∧ ¬ Wi tr q p9) ∧ ((tr 0 q = 5 ∧ tr 2 q = 6 ∧ (∀ i, i < tr 2 q → F 5 (6 * q + i) ≠ nI y9) ∧ r = -2 ∧ u = (o, F)) ∨ ((tr 0 q ≠ 5 ∨ ∃ i, i < tr 2 q ∧ F 5 (6 * q + i) = nI y9) ∧ r = -4 ∧ u = (o, F)) ∨ (tr 0 q = 5 ∧ tr 2 q < 6 ∧ (∀ i, i < tr 2 q → F 5 (6 * q + i) ≠ nI y9) ∧ r = nI (tr 2 q + 1) ∧ u = (upd (upd (upd (upd (upd (upd (upd (upd (upd (upd (upd (upd o 7 2) 14 0) 16 0) 22 0) 24 (-9)) 26 0) 27 0) 28 0) 31 0) 32 0) 33 0) 34 0, fput (fput (fput (fput F 4 (6 * q + tr 2 q) (nI p9)) 5 (6 * q + tr 2 q) (nI y9)) 6 p9 (nI q)) 3 q (nI (tr 2 q + 1))))))) 0 0 (mA G sz) := by
  refine Met.ofW (cc := cX8_field) (maxL := 6) (ret := (some .int)) (by decide) rfl ?_
  intro p e s m args below meth c s₁ B hml hv
  obtain ⟨rfl, hsz, hP, hK⟩ := hv
  have hx := B.exec
  have hb := B.bytes
  have hr := B.returns
  have htu : ∀ w ∈ WU, w.before _ s = true := fun w h => atoms_spec (ws := (wU yX8_field cX8_field 6 (some .int))) B.pre w (List.mem_cons_of_mem _ h)
  have hown : s.vm.findClass RX8 = some m.cls := findClass_of_methodNamed B.named
  have hlocks := B.notSynchronized
  subst hsz
  have hS : va_S (mA G s.heap.size) s.heap s.heap [] := va_S.rf
  have hl := lv_entry ([.ref (mh G), .int x, .int y, .int w9]) (n := 6) (Nat.le_of_ble_eq_true rfl)
  rw [lg_entry_eq]
  generalize (lg_sl ([.ref (mh G), .int x, .int y, .int w9]) ++ List.replicate (6 - (lg_sl ([.ref (mh G), .int x, .int y, .int w9])).length) Slot.unset).toArray = ls at hl ⊢
  have hl : lv_has ls 6 [(0, .ref (mh G)), (1, .int x), (2, .int y), (3, .int w9)] := hl
  obtain ⟨H, hHe⟩ : ∃ H : Heap, H = s.heap := ⟨_, rfl⟩
  rw [← hHe] at hP
  have hS : va_S (mA G s.heap.size) s.heap H [] := by rw [hHe]; exact va_S.rf
  refine W.heq hHe ?_
  have hN := hT.2.1
  have h0N := hT.1
  refine lv_aload_n hx hb dX8_field_0 rfl (lv_at hl 0 rfl) ?_
  refine lv_iload_n hx hb dX8_field_1 rfl (lv_at hl 1 rfl) ?_
  refine m_ci (m_runV (As := [.int x]) (rest := []) ⟨hx, hb, hml, hown, htu⟩ (m_isNode l G hDD o F N x h0N hN H.size) (cwV 1 htu gU_X8_isNode rfl rfl rfl (by decide +kernel) ⟨Nat.le_of_ble_eq_true rfl, Nat.le_of_ble_eq_true rfl⟩) hP hK rfl hl.1 rfl (lv_room (Nat.le_of_ble_eq_true rfl)) dX8_field_2) hS (fun r_1 o_2 F_3 H locs hw_4 hP hS => ?_)
  try dsimp only at hw_4
  obtain ⟨hu, hc⟩ := hw_4
  rcases hc with ⟨g1, q, g2, g3⟩ | ⟨g1, g2⟩
  · skip
    subst g1
    obtain ⟨h91, h92⟩ := Prod.mk.inj hu
    have h91 := h91.symm
    subst h91
    have h92 := h92.symm
    subst h92
    subst g3
    refine lv_if_eq (tgt := 35) hx hb dX8_field_5 (by decide) (fun c_5 => absurd c_5 (by decide)) (fun c_5 => ?_)
    refine lv_iload_n hx hb dX8_field_8 rfl (lv_at hl 2 rfl) ?_
    refine lv_iconst (v := 0) hx hb dX8_field_9 (by decide) ?_
    refine lv_bipush (v := 25) hx hb dX8_field_10 (by decide) ?_
    refine m_ci (m_runS (As := [.int y, .int 0, .int 25]) (rest := []) ⟨hx, hb, hml, hown, htu⟩ (m_inn l G hDD o F y 0 25 H.size) (va_cwS 3 htu gU_X8_in rfl rfl rfl (by decide +kernel) ⟨Nat.le_of_ble_eq_true rfl, Nat.le_of_ble_eq_true rfl⟩) hP hK rfl hl.1 rfl (lv_room (Nat.le_of_ble_eq_true rfl)) dX8_field_12) hS (fun r_6 o_7 F_8 H locs hw_9 hP hS => ?_)
    try dsimp only at hw_9
    obtain ⟨hu, hc⟩ := hw_9
    rw [in_w (N := 26) (by decide) (by decide)] at hc
    obtain ⟨h91, h92⟩ := Prod.mk.inj hu
    have h91 := h91.symm
    subst h91
    have h92 := h92.symm
    subst h92
    rcases hc with ⟨k1, y9, k2, k3⟩ | ⟨k1, k2⟩
    · skip
      subst k1
      subst k3
      refine lv_if_eq (tgt := 35) hx hb dX8_field_15 (by decide) (fun c_10 => absurd c_10 (by decide)) (fun c_10 => ?_)
      refine lv_aload_n hx hb dX8_field_18 rfl (lv_at hl 0 rfl) ?_
      refine lv_iload_n hx hb dX8_field_19 rfl (lv_at hl 3 rfl) ?_
      refine m_ci (m_runV (As := [.int w9]) (rest := []) ⟨hx, hb, hml, hown, htu⟩ (m_isFree l G hDD o F N w9 h0N hN H.size) (cwV 1 htu gU_X8_isFree rfl rfl rfl (by decide +kernel) ⟨Nat.le_of_ble_eq_true rfl, Nat.le_of_ble_eq_true rfl⟩) hP hK rfl hl.1 rfl (lv_room (Nat.le_of_ble_eq_true rfl)) dX8_field_20) hS (fun r_11 o_12 F_13 H locs hw_14 hP hS => ?_)
      try dsimp only at hw_14
      obtain ⟨hu, hc⟩ := hw_14
      obtain ⟨h91, h92⟩ := Prod.mk.inj hu
      have h91 := h91.symm
      subst h91
      have h92 := h92.symm
      subst h92
      rcases hc with ⟨gf1, gf2⟩ | ⟨gf1, gf2⟩
      · skip
        subst gf1
        obtain ⟨p9, p1, rfl, p2⟩ := gf2
        refine lv_if_eq (tgt := 35) hx hb dX8_field_23 (by decide) (fun c_15 => absurd c_15 (by decide)) (fun c_15 => ?_)
        refine lv_aload_n hx hb dX8_field_26 rfl (lv_at hl 0 rfl) ?_
        refine lv_iload_n hx hb dX8_field_27 rfl (lv_at hl 1 rfl) ?_
        refine lv_iload_n hx hb dX8_field_28 rfl (lv_at hl 3 rfl) ?_
        refine m_ci (m_runV (As := [.int (nI q), .int (nI p9)]) (rest := []) ⟨hx, hb, hml, hown, htu⟩ (m_isWithin l G hDD o F tr N q p9 rk hT hf hrk g2 p1 H.size) (cwV 2 htu gU_X8_isWithin rfl rfl rfl (by decide +kernel) ⟨Nat.le_of_ble_eq_true rfl, Nat.le_of_ble_eq_true rfl⟩) hP hK rfl hl.1 rfl (lv_room (Nat.le_of_ble_eq_true rfl)) dX8_field_29) hS (fun r_16 o_17 F_18 H locs hw_19 hP hS => ?_)
        try dsimp only at hw_19
        obtain ⟨hu, hc⟩ := hw_19
        obtain ⟨h91, h92⟩ := Prod.mk.inj hu
        have h91 := h91.symm
        subst h91
        have h92 := h92.symm
        subst h92
        rcases hc with ⟨gw1, gw2⟩ | ⟨gw1, gw2⟩
        · skip
          subst gw1
          refine lv_if_eq (tgt := 37) hx hb dX8_field_32 (by decide) (fun c_20 => absurd c_20 (by decide)) (fun c_20 => ?_)
          refine lv_iconst (v := (-1)) hx hb dX8_field_35 (by decide) ?_
          exact m_iret (v := (-1)) hx hb hr hK hP hS (Or.inl ⟨rfl, rfl, (fun h => by obtain ⟨q8, y8, p8, h1, h2, h3, h4, h5, h6, h7, h8⟩ := h; have e1 := (nI_eq (by omega) (by omega)).mp h2; have e2 := (nI_eq (by omega) (by omega)).mp h6; subst e1; subst e2; exact h8 gw2)⟩) dX8_field_36 hlocks
        · skip
          subst gw1
          obtain ⟨t1, t2, t3, t4, t5, t6, t7, t8⟩ := hT.2.2 q g2
          refine lv_if_eq (tgt := 37) hx hb dX8_field_32 (by decide) (fun c_21 => ?_) (fun c_21 => absurd (by decide) c_21)
          refine lv_aload_n hx hb dX8_field_37 rfl (lv_at hl 0 rfl) ?_
          refine m_get (v := .ref (md G 1)) hx hb htu wu_in hown hK hP 1 (by decide) (htu _ U_2) rfl rfl dX8_field_38 ?_
          refine lv_iload_n hx hb dX8_field_41 rfl (lv_at hl 1 rfl) ?_
          refine m_ald (j := q) (v := nI (tr 0 q)) hx hb hK hP 1 1 rfl (by omega) (by decide) t1 dX8_field_42 ?_
          refine lv_iconst (v := 5) hx hb dX8_field_43 (by decide) ?_
          refine lv_icmp_ne (tgt := 51) hx hb dX8_field_44 (by decide) (fun c_22 => ?_) (fun c_22 => ?_)
          · skip
            have nc_22 : ¬ tr 0 q = 5 := fun h9 => c_22 ((nI_eq (a := tr 0 q) (b := 5) (by omega) (by omega)).mpr h9)
            refine lv_iconst (v := 0) hx hb dX8_field_51 (by decide) ?_
            refine lv_istore (lv' := [(4, .int 0), (0, .ref (mh G)), (1, .int (nI q)), (2, .int (nI y9)), (3, .int (nI p9))]) hx hb dX8_field_52 hl (by decide) rfl (fun ls hl => ?_)
            refine lv_iload hx hb dX8_field_54 (lv_at hl 0 rfl) ?_
            refine lv_if_eq (tgt := 84) hx hb dX8_field_56 (by decide) (fun c_23 => ?_) (fun c_23 => absurd (by decide) c_23)
            refine lv_iload hx hb dX8_field_84 (lv_at hl 0 rfl) ?_
            refine lv_if_eq (tgt := 100) hx hb dX8_field_86 (by decide) (fun c_24 => ?_) (fun c_24 => absurd (by decide) c_24)
            refine lv_bipush (v := (-4)) hx hb dX8_field_100 (by decide) ?_
            exact m_iret (v := (-4)) hx hb hr hK hP hS (Or.inr ⟨q, y9, p9, ⟨g2, rfl, k2, rfl, p1, rfl, p2, gw2⟩, Or.inr (Or.inl ⟨(Or.inl nc_22), rfl, rfl⟩)⟩) dX8_field_102 hlocks
          · skip
            have nc_22 : tr 0 q = 5 := (nI_eq (a := tr 0 q) (b := 5) (by omega) (by omega)).mp c_22
            refine lv_iconst (v := 1) hx hb dX8_field_47 (by decide) ?_
            refine lv_goto (tgt := 52) hx hb dX8_field_48 (by decide) ?_
            refine lv_istore (lv' := [(4, .int 1), (0, .ref (mh G)), (1, .int (nI q)), (2, .int (nI y9)), (3, .int (nI p9))]) hx hb dX8_field_52 hl (by decide) rfl (fun ls hl => ?_)
            refine lv_iload hx hb dX8_field_54 (lv_at hl 0 rfl) ?_
            refine lv_if_eq (tgt := 84) hx hb dX8_field_56 (by decide) (fun c_25 => absurd c_25 (by decide)) (fun c_25 => ?_)
            refine lv_aload_n hx hb dX8_field_59 rfl (lv_at hl 1 rfl) ?_
            refine m_get (v := .ref (md G 3)) hx hb htu wu_in hown hK hP 3 (by decide) (htu _ U_4) rfl rfl dX8_field_60 ?_
            refine lv_iload_n hx hb dX8_field_63 rfl (lv_at hl 2 rfl) ?_
            refine m_ald (j := q) (v := nI (tr 2 q)) hx hb hK hP 3 3 rfl (by omega) (by decide) t4 dX8_field_64 ?_
            refine lv_bipush (v := 6) hx hb dX8_field_65 (by decide) ?_
            refine lv_icmp_ne (tgt := 84) hx hb dX8_field_67 (by decide) (fun c_26 => ?_) (fun c_26 => ?_)
            · skip
              have nc_26 : ¬ tr 2 q = 6 := fun h9 => c_26 ((nI_eq (a := tr 2 q) (b := 6) (by omega) (by omega)).mpr h9)
              refine lv_iload hx hb dX8_field_84 (lv_at hl 0 rfl) ?_
              refine lv_if_eq (tgt := 100) hx hb dX8_field_86 (by decide) (fun c_27 => absurd c_27 (by decide)) (fun c_27 => ?_)
              refine lv_aload_n hx hb dX8_field_89 rfl (lv_at hl 1 rfl) ?_
              refine lv_iload_n hx hb dX8_field_90 rfl (lv_at hl 2 rfl) ?_
              refine lv_iload_n hx hb dX8_field_91 rfl (lv_at hl 3 rfl) ?_
              refine m_ci (m_runV (As := [.int (nI q), .int (nI y9)]) (rest := []) ⟨hx, hb, hml, hown, htu⟩ (m_placeOf l G hDD o F N q (tr 2 q) (nI y9) hN g2 t4 t5 H.size) (cwV 2 htu gU_X8_placeOf rfl rfl rfl (by decide +kernel) ⟨Nat.le_of_ble_eq_true rfl, Nat.le_of_ble_eq_true rfl⟩) hP hK rfl hl.1 rfl (lv_room (Nat.le_of_ble_eq_true rfl)) dX8_field_92) hS (fun r_28 o_29 F_30 H locs hw_31 hP hS => ?_)
              try dsimp only at hw_31
              obtain ⟨hu, hc⟩ := hw_31
              obtain ⟨h91, h92⟩ := Prod.mk.inj hu
              have h91 := h91.symm
              subst h91
              have h92 := h92.symm
              subst h92
              rcases hc with ⟨gp1, gp2⟩ | ⟨i9, gp2, gp1, gp3, -⟩
              · skip
                subst gp1
                refine lv_bipush (v := (-9)) hx hb dX8_field_95 (by decide) ?_
                refine lv_icmp_eq (tgt := 103) hx hb dX8_field_97 (by decide) (fun c_32 => ?_) (fun c_32 => absurd (by decide) c_32)
                refine lv_aload_n hx hb dX8_field_103 rfl (lv_at hl 1 rfl) ?_
                refine m_get (v := .ref (md G 3)) hx hb htu wu_in hown hK hP 3 (by decide) (htu _ U_4) rfl rfl dX8_field_104 ?_
                refine lv_iload_n hx hb dX8_field_107 rfl (lv_at hl 2 rfl) ?_
                refine m_ald (j := q) (v := nI (tr 2 q)) hx hb hK hP 3 3 rfl (by omega) (by decide) t4 dX8_field_108 ?_
                refine lv_istore (lv' := [(5, .int (nI (tr 2 q))), (4, .int 1), (0, .ref (mh G)), (1, .int (nI q)), (2, .int (nI y9)), (3, .int (nI p9))]) hx hb dX8_field_109 hl (by decide) rfl (fun ls hl => ?_)
                refine lv_aload_n hx hb dX8_field_111 rfl (lv_at hl 2 rfl) ?_
                refine m_get (v := .ref (md G 4)) hx hb htu wu_in hown hK hP 4 (by decide) (htu _ U_6) rfl rfl dX8_field_112 ?_
                refine lv_bipush (v := 6) hx hb dX8_field_115 (by decide) ?_
                refine lv_iload_n hx hb dX8_field_117 rfl (lv_at hl 3 rfl) ?_
                refine lv_imul hx hb dX8_field_118 ?_
                refine m_top (y := nI (6 * q)) (pk_mul 6 q) ?_
                refine lv_iload hx hb dX8_field_119 (lv_at hl 0 rfl) ?_
                refine lv_iadd hx hb dX8_field_121 ?_
                refine m_top (y := nI (6 * q + (tr 2 q))) (nI_add (6 * q) (tr 2 q)) ?_
                refine lv_iload_n hx hb dX8_field_122 rfl (lv_at hl 5 rfl) ?_
                refine m_ast (j := 6 * q + (tr 2 q)) (x := nI p9) hx hb hK hP hDD hS 4 4 rfl (by omega) (by decide) (mW_a4 _ _ _ _ _) dX8_field_123 (fun H locs hP hS => ?_)
                refine lv_aload_n hx hb dX8_field_124 rfl (lv_at hl 2 rfl) ?_
                refine m_get (v := .ref (md G 5)) hx hb htu wu_in hown hK hP 5 (by decide) (htu _ U_7) rfl rfl dX8_field_125 ?_
                refine lv_bipush (v := 6) hx hb dX8_field_128 (by decide) ?_
                refine lv_iload_n hx hb dX8_field_130 rfl (lv_at hl 3 rfl) ?_
                refine lv_imul hx hb dX8_field_131 ?_
                refine m_top (y := nI (6 * q)) (pk_mul 6 q) ?_
                refine lv_iload hx hb dX8_field_132 (lv_at hl 0 rfl) ?_
                refine lv_iadd hx hb dX8_field_134 ?_
                refine m_top (y := nI (6 * q + (tr 2 q))) (nI_add (6 * q) (tr 2 q)) ?_
                refine lv_iload_n hx hb dX8_field_135 rfl (lv_at hl 4 rfl) ?_
                refine m_ast (j := 6 * q + (tr 2 q)) (x := nI y9) hx hb hK hP hDD hS 5 5 rfl (by omega) (by decide) (mW_a5 _ _ _ _ _) dX8_field_136 (fun H locs hP hS => ?_)
                refine lv_aload_n hx hb dX8_field_137 rfl (lv_at hl 2 rfl) ?_
                refine m_get (v := .ref (md G 6)) hx hb htu wu_in hown hK hP 6 (by decide) (htu _ U_5) rfl rfl dX8_field_138 ?_
                refine lv_iload_n hx hb dX8_field_141 rfl (lv_at hl 5 rfl) ?_
                refine lv_iload_n hx hb dX8_field_142 rfl (lv_at hl 3 rfl) ?_
                refine m_ast (j := p9) (x := nI q) hx hb hK hP hDD hS 6 6 rfl (by omega) (by decide) (mW_a6 _ _ _ _ _) dX8_field_143 (fun H locs hP hS => ?_)
                refine lv_aload_n hx hb dX8_field_144 rfl (lv_at hl 2 rfl) ?_
                refine m_get (v := .ref (md G 3)) hx hb htu wu_in hown hK hP 3 (by decide) (htu _ U_4) rfl rfl dX8_field_145 ?_
                refine lv_iload_n hx hb dX8_field_148 rfl (lv_at hl 3 rfl) ?_
                refine lv_dup2_11 hx hb dX8_field_149 rfl rfl ?_
                refine m_ald (j := q) (v := nI (tr 2 q)) hx hb hK hP 3 3 rfl (by omega) (by decide) t4 dX8_field_150 ?_
                refine lv_iconst (v := 1) hx hb dX8_field_151 (by decide) ?_
                refine lv_iadd hx hb dX8_field_152 ?_
                refine m_top (y := nI (tr 2 q + 1)) (nI_add (tr 2 q) 1) ?_
                refine m_ast (j := q) (x := nI (tr 2 q + 1)) hx hb hK hP hDD hS 3 3 rfl (by omega) (by decide) (mW_a3 _ _ _ _ _) dX8_field_153 (fun H locs hP hS => ?_)
                refine lv_aload_n hx hb dX8_field_154 rfl (lv_at hl 2 rfl) ?_
                refine m_cv (m_runV (As := []) (rest := []) ⟨hx, hb, hml, hown, htu⟩ (m_forgetTypes l G hDD o (fput (fput (fput (fput F 4 (6 * q + (tr 2 q)) (nI p9)) 5 (6 * q + (tr 2 q)) (nI y9)) 6 p9 (nI q)) 3 q (nI (tr 2 q + 1)))  H.size) (cwV 0 htu gU_X8_forgetTypes rfl rfl rfl (by decide +kernel) ⟨Nat.le_of_ble_eq_true rfl, Nat.le_of_ble_eq_true rfl⟩) hP hK rfl hl.1 rfl (lv_room (Nat.le_of_ble_eq_true rfl)) dX8_field_155) hS (fun o_34 F_35 H locs hw_36 hP hS => ?_)
                try dsimp only at hw_36
                obtain ⟨h91, h92⟩ := Prod.mk.inj hw_36
                have h91 := h91.symm
                subst h91
                have h92 := h92.symm
                subst h92
                refine lv_aload_n hx hb dX8_field_158 rfl (lv_at hl 2 rfl) ?_
                refine m_get (v := .ref (md G 3)) hx hb htu wu_in hown hK hP 3 (by decide) (htu _ U_4) rfl rfl dX8_field_159 ?_
                refine lv_iload_n hx hb dX8_field_162 rfl (lv_at hl 3 rfl) ?_
                refine m_ald (j := q) (v := nI (tr 2 q + 1)) hx hb hK hP 3 3 rfl (by omega) (by decide) (show (fput (fput (fput (fput F 4 (6 * q + (tr 2 q)) (nI p9)) 5 (6 * q + (tr 2 q)) (nI y9)) 6 p9 (nI q)) 3 q (nI (tr 2 q + 1))) 3 q = nI (tr 2 q + 1) from fput_s) dX8_field_163 ?_
                exact m_iret (v := nI (tr 2 q + 1)) hx hb hr hK hP hS (Or.inr ⟨q, y9, p9, ⟨g2, rfl, k2, rfl, p1, rfl, p2, gw2⟩, Or.inr (Or.inr ⟨nc_22, by omega, gp2, rfl, rfl⟩)⟩) dX8_field_164 hlocks
              · skip
                subst gp1
                refine lv_bipush (v := (-9)) hx hb dX8_field_95 (by decide) ?_
                refine lv_icmp_eq (tgt := 103) hx hb dX8_field_97 (by decide) (fun c_37 => absurd c_37 (nI_neg (by decide) (by omega))) (fun c_37 => ?_)
                refine lv_bipush (v := (-4)) hx hb dX8_field_100 (by decide) ?_
                exact m_iret (v := (-4)) hx hb hr hK hP hS (Or.inr ⟨q, y9, p9, ⟨g2, rfl, k2, rfl, p1, rfl, p2, gw2⟩, Or.inr (Or.inl ⟨(Or.inr ⟨i9, gp2, gp3⟩), rfl, rfl⟩)⟩) dX8_field_102 hlocks
            · skip
              have nc_26 : tr 2 q = 6 := (nI_eq (a := tr 2 q) (b := 6) (by omega) (by omega)).mp c_26
              refine lv_aload_n hx hb dX8_field_70 rfl (lv_at hl 1 rfl) ?_
              refine lv_iload_n hx hb dX8_field_71 rfl (lv_at hl 2 rfl) ?_
              refine lv_iload_n hx hb dX8_field_72 rfl (lv_at hl 3 rfl) ?_
              refine m_ci (m_runV (As := [.int (nI q), .int (nI y9)]) (rest := []) ⟨hx, hb, hml, hown, htu⟩ (m_placeOf l G hDD o F N q (tr 2 q) (nI y9) hN g2 t4 t5 H.size) (cwV 2 htu gU_X8_placeOf rfl rfl rfl (by decide +kernel) ⟨Nat.le_of_ble_eq_true rfl, Nat.le_of_ble_eq_true rfl⟩) hP hK rfl hl.1 rfl (lv_room (Nat.le_of_ble_eq_true rfl)) dX8_field_73) hS (fun r_38 o_39 F_40 H locs hw_41 hP hS => ?_)
              try dsimp only at hw_41
              obtain ⟨hu, hc⟩ := hw_41
              obtain ⟨h91, h92⟩ := Prod.mk.inj hu
              have h91 := h91.symm
              subst h91
              have h92 := h92.symm
              subst h92
              rcases hc with ⟨gp1, gp2⟩ | ⟨i9, gp2, gp1, gp3, -⟩
              · skip
                subst gp1
                refine lv_bipush (v := (-9)) hx hb dX8_field_76 (by decide) ?_
                refine lv_icmp_ne (tgt := 84) hx hb dX8_field_78 (by decide) (fun c_42 => absurd (by decide) c_42) (fun c_42 => ?_)
                refine lv_bipush (v := (-2)) hx hb dX8_field_81 (by decide) ?_
                exact m_iret (v := (-2)) hx hb hr hK hP hS (Or.inr ⟨q, y9, p9, ⟨g2, rfl, k2, rfl, p1, rfl, p2, gw2⟩, Or.inl ⟨nc_22, nc_26, gp2, rfl, rfl⟩⟩) dX8_field_83 hlocks
              · skip
                subst gp1
                refine lv_bipush (v := (-9)) hx hb dX8_field_76 (by decide) ?_
                refine lv_icmp_ne (tgt := 84) hx hb dX8_field_78 (by decide) (fun c_43 => ?_) (fun c_43 => absurd c_43 (nI_neg (by decide) (by omega)))
                refine lv_iload hx hb dX8_field_84 (lv_at hl 0 rfl) ?_
                refine lv_if_eq (tgt := 100) hx hb dX8_field_86 (by decide) (fun c_44 => absurd c_44 (by decide)) (fun c_44 => ?_)
                refine lv_aload_n hx hb dX8_field_89 rfl (lv_at hl 1 rfl) ?_
                refine lv_iload_n hx hb dX8_field_90 rfl (lv_at hl 2 rfl) ?_
                refine lv_iload_n hx hb dX8_field_91 rfl (lv_at hl 3 rfl) ?_
                refine m_ci (m_runV (As := [.int (nI q), .int (nI y9)]) (rest := []) ⟨hx, hb, hml, hown, htu⟩ (m_placeOf l G hDD o F N q (tr 2 q) (nI y9) hN g2 t4 t5 H.size) (cwV 2 htu gU_X8_placeOf rfl rfl rfl (by decide +kernel) ⟨Nat.le_of_ble_eq_true rfl, Nat.le_of_ble_eq_true rfl⟩) hP hK rfl hl.1 rfl (lv_room (Nat.le_of_ble_eq_true rfl)) dX8_field_92) hS (fun r_45 o_46 F_47 H locs hw_48 hP hS => ?_)
                try dsimp only at hw_48
                obtain ⟨hu, hc⟩ := hw_48
                obtain ⟨h91, h92⟩ := Prod.mk.inj hu
                have h91 := h91.symm
                subst h91
                have h92 := h92.symm
                subst h92
                rcases hc with ⟨gq1, gq2⟩ | ⟨i8, h8, gq1, h7, -⟩
                · exact absurd gp3 (gq2 i9 gp2)
                · skip
                  subst gq1
                  refine lv_bipush (v := (-9)) hx hb dX8_field_95 (by decide) ?_
                  refine lv_icmp_eq (tgt := 103) hx hb dX8_field_97 (by decide) (fun c_49 => absurd c_49 (nI_neg (by decide) (by omega))) (fun c_49 => ?_)
                  refine lv_bipush (v := (-4)) hx hb dX8_field_100 (by decide) ?_
                  exact m_iret (v := (-4)) hx hb hr hK hP hS (Or.inr ⟨q, y9, p9, ⟨g2, rfl, k2, rfl, p1, rfl, p2, gw2⟩, Or.inr (Or.inl ⟨(Or.inr ⟨i9, gp2, gp3⟩), rfl, rfl⟩)⟩) dX8_field_102 hlocks
      · skip
        subst gf1
        refine lv_if_eq (tgt := 35) hx hb dX8_field_23 (by decide) (fun c_50 => ?_) (fun c_50 => absurd (by decide) c_50)
        refine lv_iconst (v := (-1)) hx hb dX8_field_35 (by decide) ?_
        exact m_iret (v := (-1)) hx hb hr hK hP hS (Or.inl ⟨rfl, rfl, (fun h => by obtain ⟨q, y9, p9, h1, h2, h3, h4, h5, h6, h7, -⟩ := h; exact gf2 ⟨p9, h5, h6, h7⟩)⟩) dX8_field_36 hlocks
    · skip
      subst k1
      refine lv_if_eq (tgt := 35) hx hb dX8_field_15 (by decide) (fun c_51 => ?_) (fun c_51 => absurd (by decide) c_51)
      refine lv_iconst (v := (-1)) hx hb dX8_field_35 (by decide) ?_
      exact m_iret (v := (-1)) hx hb hr hK hP hS (Or.inl ⟨rfl, rfl, (fun h => by obtain ⟨q, y9, p9, h1, h2, h3, h4, -⟩ := h; exact k2 ⟨y9, h3, h4⟩)⟩) dX8_field_36 hlocks
  · skip
    subst g1
    obtain ⟨h91, h92⟩ := Prod.mk.inj hu
    have h91 := h91.symm
    subst h91
    have h92 := h92.symm
    subst h92
    refine lv_if_eq (tgt := 35) hx hb dX8_field_5 (by decide) (fun c_52 => ?_) (fun c_52 => absurd (by decide) c_52)
    refine lv_iconst (v := (-1)) hx hb dX8_field_35 (by decide) ?_
    exact m_iret (v := (-1)) hx hb hr hK hP hS (Or.inl ⟨rfl, rfl, (fun h => by obtain ⟨q, y9, p9, h1, h2, -⟩ := h; exact g2 ⟨q, h1, h2⟩)⟩) dX8_field_36 hlocks

