theorem dX8_node_15 : decode cX8_node 15 = .ok (.iload_n 2, 1) := by decide +kernel
theorem dX8_node_16 : decode cX8_node 16 = .ok (.iconst 0, 1) := by decide +kernel
theorem dX8_node_17 : decode cX8_node 17 = .ok (.iconst 1, 1) := by decide +kernel
theorem dX8_node_18 : decode cX8_node 18 = .ok (.invokestatic 140, 3) := by decide +kernel
theorem dX8_node_21 : decode cX8_node 21 = .ok (.ifCond .eq 20, 3) := by decide +kernel
theorem dX8_node_147 : decode cX8_node 147 = .ok (.iload_n 1, 1) := by decide +kernel
theorem dX8_node_148 : decode cX8_node 148 = .ok (.iconst 1, 1) := by decide +kernel
theorem dX8_node_149 : decode cX8_node 149 = .ok (.if_icmp .eq 10, 3) := by decide +kernel
theorem dX8_node_41 : decode cX8_node 41 = .ok (.iconst (-1), 1) := by decide +kernel
theorem dX8_node_42 : decode cX8_node 42 = .ok (.ireturn, 1) := by decide +kernel
set_option maxHeartbeats 4000000 in
set_option maxRecDepth 100000 in
/-- node of kind 1 -/
theorem m_node_1 (l : Launch) (G : mG) (hDD : mDD G) (o : Nat → Int32) (F : Nat → Nat → Int32) (N : Nat) (v9 : Int32) (a1 : Int32) (a2 : Int32) (a3 : Int32) (h0N : o 0 = nI N) (hN : N ≤ 120) (sz : Nat) : Met l yX8_node (wU yX8_node cX8_node 8 (some .int)) { frames := 1, cells := 0, slots := 0, locals := 22 } (mPc G o F sz [.ref (mh G), .int 1, .int v9, .int a1, .int a2, .int a3]) (mQi G sz (fun r u => (r = -1 ∧ u = (o, F) ∧ ¬ ((∃ w, w < 2 ∧ v9 = nI w) ∧ (True))) ∨ ((∃ w, w < 2 ∧ v9 = nI w) ∧ (True) ∧ ((N = 120 ∧ r = -2 ∧ u = (o, F)) ∨ (N < 120 ∧ r = nI N ∧ u = (upd o 0 (nI (N + 1)), fput (fput (fput (fput (fput (fput (fput (fput (fput (fput (fput (fput (fput (fput (fput (fput F 1 N 1) 2 N v9) 3 N 0) 6 N ((-9))) 4 (6 * N + 0) ((-9))) 5 (6 * N + 0) ((-9))) 4 (6 * N + 1) ((-9))) 5 (6 * N + 1) ((-9))) 4 (6 * N + 2) ((-9))) 5 (6 * N + 2) ((-9))) 4 (6 * N + 3) ((-9))) 5 (6 * N + 3) ((-9))) 4 (6 * N + 4) ((-9))) 5 (6 * N + 4) ((-9))) 4 (6 * N + 5) ((-9))) 5 (6 * N + 5) ((-9)))))))) 0 0 (mA G sz) := by
  refine Met.ofW (cc := cX8_node) (maxL := 8) (ret := (some .int)) (by decide) rfl ?_
  intro p e s m args below meth c s₁ B hml hv
  obtain ⟨rfl, hsz, hP, hK⟩ := hv
  have hx := B.exec
  have hb := B.bytes
  have hr := B.returns
  have htu : ∀ w ∈ WU, w.before _ s = true := fun w h => atoms_spec (ws := (wU yX8_node cX8_node 8 (some .int))) B.pre w (List.mem_cons_of_mem _ h)
  have hown : s.vm.findClass RX8 = some m.cls := findClass_of_methodNamed B.named
  have hlocks := B.notSynchronized
  subst hsz
  have hS : va_S (mA G s.heap.size) s.heap s.heap [] := va_S.rf
  have hl := lv_entry ([.ref (mh G), .int 1, .int v9, .int a1, .int a2, .int a3]) (n := 8) (Nat.le_of_ble_eq_true rfl)
  rw [lg_entry_eq]
  generalize (lg_sl ([.ref (mh G), .int 1, .int v9, .int a1, .int a2, .int a3]) ++ List.replicate (8 - (lg_sl ([.ref (mh G), .int 1, .int v9, .int a1, .int a2, .int a3])).length) Slot.unset).toArray = ls at hl ⊢
  have hl : lv_has ls 8 [(0, .ref (mh G)), (1, .int 1), (2, .int v9), (3, .int a1), (4, .int a2), (5, .int a3)] := hl
  obtain ⟨H, hHe⟩ : ∃ H : Heap, H = s.heap := ⟨_, rfl⟩
  rw [← hHe] at hP
  have hS : va_S (mA G s.heap.size) s.heap H [] := by rw [hHe]; exact va_S.rf
  refine W.heq hHe ?_
  refine lv_iload_n hx hb dX8_node_0 rfl (lv_at hl 1 rfl) ?_
  refine lv_iconst (v := 0) hx hb dX8_node_1 (by decide) ?_
  refine lv_bipush (v := 11) hx hb dX8_node_2 (by decide) ?_
  refine m_ci (m_runS (As := [.int 1, .int 0, .int 11]) (rest := []) ⟨hx, hb, hml, hown, htu⟩ (m_inn l G hDD o F 1 0 11 H.size) (va_cwS 3 htu gU_X8_in rfl rfl rfl (by decide +kernel) ⟨Nat.le_of_ble_eq_true rfl, Nat.le_of_ble_eq_true rfl⟩) hP hK rfl hl.1 rfl (lv_room (Nat.le_of_ble_eq_true rfl)) dX8_node_4) hS (fun r_1 o_2 F_3 H locs hw_4 hP hS => ?_)
  try dsimp only at hw_4
  obtain ⟨hu, hc⟩ := hw_4
  obtain ⟨h91, h92⟩ := Prod.mk.inj hu
  have h91 := h91.symm
  subst h91
  have h92 := h92.symm
  subst h92
  obtain rfl : r_1 = 1 := by rcases hc with h | h; exact h.1; exact absurd (by decide) h.2
  refine lv_if_eq (tgt := 41) hx hb dX8_node_7 (by decide) (fun c_5 => absurd c_5 (by decide)) (fun c_5 => ?_)
  refine lv_iload_n hx hb dX8_node_10 rfl (lv_at hl 1 rfl) ?_
  refine lv_iconst (v := 1) hx hb dX8_node_11 (by decide) ?_
  refine lv_icmp_ne (tgt := 24) hx hb dX8_node_12 (by decide) (fun c_6 => absurd (by decide) c_6) (fun c_6 => ?_)
  refine lv_iload_n hx hb dX8_node_15 rfl (lv_at hl 2 rfl) ?_
  refine lv_iconst (v := 0) hx hb dX8_node_16 (by decide) ?_
  refine lv_iconst (v := 1) hx hb dX8_node_17 (by decide) ?_
  refine m_ci (m_runS (As := [.int v9, .int 0, .int 1]) (rest := []) ⟨hx, hb, hml, hown, htu⟩ (m_inn l G hDD o F v9 0 1 H.size) (va_cwS 3 htu gU_X8_in rfl rfl rfl (by decide +kernel) ⟨Nat.le_of_ble_eq_true rfl, Nat.le_of_ble_eq_true rfl⟩) hP hK rfl hl.1 rfl (lv_room (Nat.le_of_ble_eq_true rfl)) dX8_node_18) hS (fun r_7 o_8 F_9 H locs hw_10 hP hS => ?_)
  try dsimp only at hw_10
  obtain ⟨hu, hc⟩ := hw_10
  obtain ⟨h91, h92⟩ := Prod.mk.inj hu
  have h91 := h91.symm
  subst h91
  have h92 := h92.symm
  subst h92
  rw [in_w (N := 2) (by decide) (by decide)] at hc
  rcases hc with ⟨gv1, gv2⟩ | ⟨gv1, gv2⟩
  · skip
    subst gv1
    refine lv_if_eq (tgt := 41) hx hb dX8_node_21 (by decide) (fun c_11 => absurd c_11 (by decide)) (fun c_11 => ?_)
    refine lv_iload_n hx hb dX8_node_24 rfl (lv_at hl 1 rfl) ?_
    refine m_ci (m_runS (As := [.int 1]) (rest := []) ⟨hx, hb, hml, hown, htu⟩ (m_hasName l G hDD o F 1 H.size) (va_cwS 1 htu gU_X8_hasName rfl rfl rfl (by decide +kernel) ⟨Nat.le_of_ble_eq_true rfl, Nat.le_of_ble_eq_true rfl⟩) hP hK rfl hl.1 rfl (lv_room (Nat.le_of_ble_eq_true rfl)) dX8_node_25) hS (fun r_12 o_13 F_14 H locs hw_15 hP hS => ?_)
    try dsimp only at hw_15
    obtain ⟨hu, hc⟩ := hw_15
    obtain ⟨h91, h92⟩ := Prod.mk.inj hu
    have h91 := h91.symm
    subst h91
    have h92 := h92.symm
    subst h92
    obtain rfl : r_12 = 0 := hc.trans (by decide)
    refine lv_if_eq (tgt := 43) hx hb dX8_node_28 (by decide) (fun c_16 => ?_) (fun c_16 => absurd (by decide) c_16)
    refine lv_iload_n hx hb dX8_node_43 rfl (lv_at hl 1 rfl) ?_
    refine m_ci (m_runS (As := [.int 1]) (rest := []) ⟨hx, hb, hml, hown, htu⟩ (m_partsOf l G hDD o F 1 H.size) (va_cwS 1 htu gU_X8_partsOf rfl rfl rfl (by decide +kernel) ⟨Nat.le_of_ble_eq_true rfl, Nat.le_of_ble_eq_true rfl⟩) hP hK rfl hl.1 rfl (lv_room (Nat.le_of_ble_eq_true rfl)) dX8_node_44) hS (fun r_17 o_18 F_19 H locs hw_20 hP hS => ?_)
    try dsimp only at hw_20
    obtain ⟨hu, hc⟩ := hw_20
    obtain ⟨h91, h92⟩ := Prod.mk.inj hu
    have h91 := h91.symm
    subst h91
    have h92 := h92.symm
    subst h92
    obtain rfl : r_17 = 0 := hc.trans (by decide)
    refine lv_istore (lv' := [(6, .int 0), (0, .ref (mh G)), (1, .int 1), (2, .int v9), (3, .int a1), (4, .int a2), (5, .int a3)]) hx hb dX8_node_47 hl (by decide) rfl (fun ls hl => ?_)
    refine lv_iload hx hb dX8_node_49 (lv_at hl 0 rfl) ?_
    refine lv_if_le (tgt := 62) hx hb dX8_node_51 (by decide) (fun c_21 => ?_) (fun c_21 => absurd (by decide) c_21)
    refine lv_iload hx hb dX8_node_62 (lv_at hl 0 rfl) ?_
    refine lv_iconst (v := 1) hx hb dX8_node_64 (by decide) ?_
    refine lv_icmp_le (tgt := 83) hx hb dX8_node_65 (by decide) (fun c_22 => ?_) (fun c_22 => absurd (by decide) c_22)
    refine lv_iload hx hb dX8_node_83 (lv_at hl 0 rfl) ?_
    refine lv_iconst (v := 2) hx hb dX8_node_85 (by decide) ?_
    refine lv_icmp_le (tgt := 113) hx hb dX8_node_86 (by decide) (fun c_23 => ?_) (fun c_23 => absurd (by decide) c_23)
    refine lv_aload_n hx hb dX8_node_113 rfl (lv_at hl 1 rfl) ?_
    refine m_get (v := .int (nI N)) hx hb htu wu_in hown hK hP 0 (by decide) (htu _ U_1) rfl (m_v h0N) dX8_node_114 ?_
    refine lv_bipush (v := 120) hx hb dX8_node_117 (by decide) ?_
    refine lv_icmp_ne (tgt := 125) hx hb dX8_node_119 (by decide) (fun c_24 => ?_) (fun c_24 => ?_)
    · skip
      have nc_24 : ¬ N = 120 := fun h9 => c_24 ((nI_eq (a := N) (b := 120) (by omega) (by omega)).mpr h9)
      refine lv_aload_n hx hb dX8_node_125 rfl (lv_at hl 1 rfl) ?_
      refine m_get (v := .ref (md G 1)) hx hb htu wu_in hown hK hP 1 (by decide) (htu _ U_2) rfl rfl dX8_node_126 ?_
      refine lv_aload_n hx hb dX8_node_129 rfl (lv_at hl 1 rfl) ?_
      refine m_get (v := .int (nI N)) hx hb htu wu_in hown hK hP 0 (by decide) (htu _ U_1) rfl (m_v h0N) dX8_node_130 ?_
      refine lv_iload_n hx hb dX8_node_133 rfl (lv_at hl 2 rfl) ?_
      refine m_ast (j := N) (x := 1) hx hb hK hP hDD hS 1 1 rfl (by omega) (by decide) (mW_a1 _ _ _ _ _) dX8_node_134 (fun H locs hP hS => ?_)
      refine lv_aload_n hx hb dX8_node_135 rfl (lv_at hl 1 rfl) ?_
      refine m_get (v := .ref (md G 2)) hx hb htu wu_in hown hK hP 2 (by decide) (htu _ U_3) rfl rfl dX8_node_136 ?_
      refine lv_aload_n hx hb dX8_node_139 rfl (lv_at hl 1 rfl) ?_
      refine m_get (v := .int (nI N)) hx hb htu wu_in hown hK hP 0 (by decide) (htu _ U_1) rfl (m_v h0N) dX8_node_140 ?_
      refine lv_iload_n hx hb dX8_node_143 rfl (lv_at hl 2 rfl) ?_
      refine lv_if_eq (tgt := 159) hx hb dX8_node_144 (by decide) (fun c_25 => absurd c_25 (by decide)) (fun c_25 => ?_)
      refine lv_iload_n hx hb dX8_node_147 rfl (lv_at hl 2 rfl) ?_
      refine lv_iconst (v := 1) hx hb dX8_node_148 (by decide) ?_
      refine lv_icmp_eq (tgt := 159) hx hb dX8_node_149 (by decide) (fun c_26 => ?_) (fun c_26 => absurd (by decide) c_26)
      refine lv_iload_n hx hb dX8_node_159 rfl (lv_at hl 3 rfl) ?_
      refine lv_goto (tgt := 165) hx hb dX8_node_160 (by decide) ?_
      refine m_ast (j := N) (x := v9) hx hb hK hP hDD hS 2 2 rfl (by omega) (by decide) (mW_a2 _ _ _ _ _) dX8_node_165 (fun H locs hP hS => ?_)
      refine lv_aload_n hx hb dX8_node_166 rfl (lv_at hl 1 rfl) ?_
      refine m_get (v := .ref (md G 3)) hx hb htu wu_in hown hK hP 3 (by decide) (htu _ U_4) rfl rfl dX8_node_167 ?_
      refine lv_aload_n hx hb dX8_node_170 rfl (lv_at hl 1 rfl) ?_
      refine m_get (v := .int (nI N)) hx hb htu wu_in hown hK hP 0 (by decide) (htu _ U_1) rfl (m_v h0N) dX8_node_171 ?_
      refine lv_iload hx hb dX8_node_174 (lv_at hl 0 rfl) ?_
      refine m_ast (j := N) (x := 0) hx hb hK hP hDD hS 3 3 rfl (by omega) (by decide) (mW_a3 _ _ _ _ _) dX8_node_176 (fun H locs hP hS => ?_)
      refine lv_aload_n hx hb dX8_node_177 rfl (lv_at hl 1 rfl) ?_
      refine m_get (v := .ref (md G 6)) hx hb htu wu_in hown hK hP 6 (by decide) (htu _ U_5) rfl rfl dX8_node_178 ?_
      refine lv_aload_n hx hb dX8_node_181 rfl (lv_at hl 1 rfl) ?_
      refine m_get (v := .int (nI N)) hx hb htu wu_in hown hK hP 0 (by decide) (htu _ U_1) rfl (m_v h0N) dX8_node_182 ?_
      refine lv_bipush (v := (-9)) hx hb dX8_node_185 (by decide) ?_
      refine m_ast (j := N) (x := (-9)) hx hb hK hP hDD hS 6 6 rfl (by omega) (by decide) (mW_a6 _ _ _ _ _) dX8_node_187 (fun H locs hP hS => ?_)
      refine lv_iconst (v := 0) hx hb dX8_node_188 (by decide) ?_
      refine lv_istore (lv' := [(7, .int 0), (6, .int 0), (0, .ref (mh G)), (1, .int 1), (2, .int v9), (3, .int a1), (4, .int a2), (5, .int a3)]) hx hb dX8_node_189 hl (by decide) rfl (fun ls hl => ?_)
      refine lv_iload hx hb dX8_node_191 (lv_at hl 0 rfl) ?_
      refine lv_bipush (v := 6) hx hb dX8_node_193 (by decide) ?_
      refine lv_icmp_ge (tgt := 270) hx hb dX8_node_195 (by decide) (fun c_27 => absurd c_27 (by decide)) (fun c_27 => ?_)
      refine lv_aload_n hx hb dX8_node_198 rfl (lv_at hl 2 rfl) ?_
      refine m_get (v := .ref (md G 4)) hx hb htu wu_in hown hK hP 4 (by decide) (htu _ U_6) rfl rfl dX8_node_199 ?_
      refine lv_bipush (v := 6) hx hb dX8_node_202 (by decide) ?_
      refine lv_aload_n hx hb dX8_node_204 rfl (lv_at hl 2 rfl) ?_
      refine m_get (v := .int (nI N)) hx hb htu wu_in hown hK hP 0 (by decide) (htu _ U_1) rfl (m_v h0N) dX8_node_205 ?_
      refine lv_imul hx hb dX8_node_208 ?_
      refine m_top (y := nI (6 * N)) (pk_mul 6 N) ?_
      refine lv_iload hx hb dX8_node_209 (lv_at hl 0 rfl) ?_
      refine lv_iadd hx hb dX8_node_211 ?_
      refine m_top (y := nI (6 * N)) (Int32.add_zero _) ?_
      refine lv_iload hx hb dX8_node_212 (lv_at hl 0 rfl) ?_
      refine lv_iload hx hb dX8_node_214 (lv_at hl 1 rfl) ?_
      refine lv_icmp_ge (tgt := 244) hx hb dX8_node_216 (by decide) (fun c_28 => ?_) (fun c_28 => absurd (by decide) c_28)
      refine lv_bipush (v := (-9)) hx hb dX8_node_244 (by decide) ?_
      refine m_ast (j := 6 * N) (x := (-9)) hx hb hK hP hDD hS 4 4 rfl (by omega) (by decide) (mW_a4 _ _ _ _ _) dX8_node_246 (fun H locs hP hS => ?_)
      refine lv_aload_n hx hb dX8_node_247 rfl (lv_at hl 2 rfl) ?_
      refine m_get (v := .ref (md G 5)) hx hb htu wu_in hown hK hP 5 (by decide) (htu _ U_7) rfl rfl dX8_node_248 ?_
      refine lv_bipush (v := 6) hx hb dX8_node_251 (by decide) ?_
      refine lv_aload_n hx hb dX8_node_253 rfl (lv_at hl 2 rfl) ?_
      refine m_get (v := .int (nI N)) hx hb htu wu_in hown hK hP 0 (by decide) (htu _ U_1) rfl (m_v h0N) dX8_node_254 ?_
      refine lv_imul hx hb dX8_node_257 ?_
      refine m_top (y := nI (6 * N)) (pk_mul 6 N) ?_
      refine lv_iload hx hb dX8_node_258 (lv_at hl 0 rfl) ?_
      refine lv_iadd hx hb dX8_node_260 ?_
      refine m_top (y := nI (6 * N)) (Int32.add_zero _) ?_
      refine lv_bipush (v := (-9)) hx hb dX8_node_261 (by decide) ?_
      refine m_ast (j := 6 * N) (x := (-9)) hx hb hK hP hDD hS 5 5 rfl (by omega) (by decide) (mW_a5 _ _ _ _ _) dX8_node_263 (fun H locs hP hS => ?_)
      refine lv_iinc (v := 1) (lv' := [(7, .int 1), (6, .int 0), (0, .ref (mh G)), (1, .int 1), (2, .int v9), (3, .int a1), (4, .int a2), (5, .int a3)]) hx hb dX8_node_264 hl (k := 0) rfl (by decide) (by decide) rfl (fun ls hl => ?_)
      refine lv_goto (tgt := 191) hx hb dX8_node_267 (by decide) ?_
      refine lv_iload hx hb dX8_node_191 (lv_at hl 0 rfl) ?_
      refine lv_bipush (v := 6) hx hb dX8_node_193 (by decide) ?_
      refine lv_icmp_ge (tgt := 270) hx hb dX8_node_195 (by decide) (fun c_29 => absurd c_29 (by decide)) (fun c_29 => ?_)
      refine lv_aload_n hx hb dX8_node_198 rfl (lv_at hl 2 rfl) ?_
      refine m_get (v := .ref (md G 4)) hx hb htu wu_in hown hK hP 4 (by decide) (htu _ U_6) rfl rfl dX8_node_199 ?_
      refine lv_bipush (v := 6) hx hb dX8_node_202 (by decide) ?_
      refine lv_aload_n hx hb dX8_node_204 rfl (lv_at hl 2 rfl) ?_
      refine m_get (v := .int (nI N)) hx hb htu wu_in hown hK hP 0 (by decide) (htu _ U_1) rfl (m_v h0N) dX8_node_205 ?_
      refine lv_imul hx hb dX8_node_208 ?_
      refine m_top (y := nI (6 * N)) (pk_mul 6 N) ?_
      refine lv_iload hx hb dX8_node_209 (lv_at hl 0 rfl) ?_
      refine lv_iadd hx hb dX8_node_211 ?_
      refine m_top (y := nI (6 * N + 1)) (nI_add (6 * N) 1) ?_
      refine lv_iload hx hb dX8_node_212 (lv_at hl 0 rfl) ?_
      refine lv_iload hx hb dX8_node_214 (lv_at hl 1 rfl) ?_
      refine lv_icmp_ge (tgt := 244) hx hb dX8_node_216 (by decide) (fun c_30 => ?_) (fun c_30 => absurd (by decide) c_30)
      refine lv_bipush (v := (-9)) hx hb dX8_node_244 (by decide) ?_
      refine m_ast (j := 6 * N + 1) (x := (-9)) hx hb hK hP hDD hS 4 4 rfl (by omega) (by decide) (mW_a4 _ _ _ _ _) dX8_node_246 (fun H locs hP hS => ?_)
      refine lv_aload_n hx hb dX8_node_247 rfl (lv_at hl 2 rfl) ?_
      refine m_get (v := .ref (md G 5)) hx hb htu wu_in hown hK hP 5 (by decide) (htu _ U_7) rfl rfl dX8_node_248 ?_
      refine lv_bipush (v := 6) hx hb dX8_node_251 (by decide) ?_
      refine lv_aload_n hx hb dX8_node_253 rfl (lv_at hl 2 rfl) ?_
      refine m_get (v := .int (nI N)) hx hb htu wu_in hown hK hP 0 (by decide) (htu _ U_1) rfl (m_v h0N) dX8_node_254 ?_
      refine lv_imul hx hb dX8_node_257 ?_
      refine m_top (y := nI (6 * N)) (pk_mul 6 N) ?_
      refine lv_iload hx hb dX8_node_258 (lv_at hl 0 rfl) ?_
      refine lv_iadd hx hb dX8_node_260 ?_
      refine m_top (y := nI (6 * N + 1)) (nI_add (6 * N) 1) ?_
      refine lv_bipush (v := (-9)) hx hb dX8_node_261 (by decide) ?_
      refine m_ast (j := 6 * N + 1) (x := (-9)) hx hb hK hP hDD hS 5 5 rfl (by omega) (by decide) (mW_a5 _ _ _ _ _) dX8_node_263 (fun H locs hP hS => ?_)
      refine lv_iinc (v := 2) (lv' := [(7, .int 2), (6, .int 0), (0, .ref (mh G)), (1, .int 1), (2, .int v9), (3, .int a1), (4, .int a2), (5, .int a3)]) hx hb dX8_node_264 hl (k := 0) rfl (by decide) (by decide) rfl (fun ls hl => ?_)
      refine lv_goto (tgt := 191) hx hb dX8_node_267 (by decide) ?_
      refine lv_iload hx hb dX8_node_191 (lv_at hl 0 rfl) ?_
      refine lv_bipush (v := 6) hx hb dX8_node_193 (by decide) ?_
      refine lv_icmp_ge (tgt := 270) hx hb dX8_node_195 (by decide) (fun c_31 => absurd c_31 (by decide)) (fun c_31 => ?_)
      refine lv_aload_n hx hb dX8_node_198 rfl (lv_at hl 2 rfl) ?_
      refine m_get (v := .ref (md G 4)) hx hb htu wu_in hown hK hP 4 (by decide) (htu _ U_6) rfl rfl dX8_node_199 ?_
      refine lv_bipush (v := 6) hx hb dX8_node_202 (by decide) ?_
      refine lv_aload_n hx hb dX8_node_204 rfl (lv_at hl 2 rfl) ?_
      refine m_get (v := .int (nI N)) hx hb htu wu_in hown hK hP 0 (by decide) (htu _ U_1) rfl (m_v h0N) dX8_node_205 ?_
      refine lv_imul hx hb dX8_node_208 ?_
      refine m_top (y := nI (6 * N)) (pk_mul 6 N) ?_
      refine lv_iload hx hb dX8_node_209 (lv_at hl 0 rfl) ?_
      refine lv_iadd hx hb dX8_node_211 ?_
      refine m_top (y := nI (6 * N + 2)) (nI_add (6 * N) 2) ?_
      refine lv_iload hx hb dX8_node_212 (lv_at hl 0 rfl) ?_
      refine lv_iload hx hb dX8_node_214 (lv_at hl 1 rfl) ?_
      refine lv_icmp_ge (tgt := 244) hx hb dX8_node_216 (by decide) (fun c_32 => ?_) (fun c_32 => absurd (by decide) c_32)
      refine lv_bipush (v := (-9)) hx hb dX8_node_244 (by decide) ?_
      refine m_ast (j := 6 * N + 2) (x := (-9)) hx hb hK hP hDD hS 4 4 rfl (by omega) (by decide) (mW_a4 _ _ _ _ _) dX8_node_246 (fun H locs hP hS => ?_)
      refine lv_aload_n hx hb dX8_node_247 rfl (lv_at hl 2 rfl) ?_
      refine m_get (v := .ref (md G 5)) hx hb htu wu_in hown hK hP 5 (by decide) (htu _ U_7) rfl rfl dX8_node_248 ?_
      refine lv_bipush (v := 6) hx hb dX8_node_251 (by decide) ?_
      refine lv_aload_n hx hb dX8_node_253 rfl (lv_at hl 2 rfl) ?_
      refine m_get (v := .int (nI N)) hx hb htu wu_in hown hK hP 0 (by decide) (htu _ U_1) rfl (m_v h0N) dX8_node_254 ?_
      refine lv_imul hx hb dX8_node_257 ?_
      refine m_top (y := nI (6 * N)) (pk_mul 6 N) ?_
      refine lv_iload hx hb dX8_node_258 (lv_at hl 0 rfl) ?_
      refine lv_iadd hx hb dX8_node_260 ?_
      refine m_top (y := nI (6 * N + 2)) (nI_add (6 * N) 2) ?_
      refine lv_bipush (v := (-9)) hx hb dX8_node_261 (by decide) ?_
      refine m_ast (j := 6 * N + 2) (x := (-9)) hx hb hK hP hDD hS 5 5 rfl (by omega) (by decide) (mW_a5 _ _ _ _ _) dX8_node_263 (fun H locs hP hS => ?_)
      refine lv_iinc (v := 3) (lv' := [(7, .int 3), (6, .int 0), (0, .ref (mh G)), (1, .int 1), (2, .int v9), (3, .int a1), (4, .int a2), (5, .int a3)]) hx hb dX8_node_264 hl (k := 0) rfl (by decide) (by decide) rfl (fun ls hl => ?_)
      refine lv_goto (tgt := 191) hx hb dX8_node_267 (by decide) ?_
      refine lv_iload hx hb dX8_node_191 (lv_at hl 0 rfl) ?_
      refine lv_bipush (v := 6) hx hb dX8_node_193 (by decide) ?_
      refine lv_icmp_ge (tgt := 270) hx hb dX8_node_195 (by decide) (fun c_33 => absurd c_33 (by decide)) (fun c_33 => ?_)
      refine lv_aload_n hx hb dX8_node_198 rfl (lv_at hl 2 rfl) ?_
      refine m_get (v := .ref (md G 4)) hx hb htu wu_in hown hK hP 4 (by decide) (htu _ U_6) rfl rfl dX8_node_199 ?_
      refine lv_bipush (v := 6) hx hb dX8_node_202 (by decide) ?_
      refine lv_aload_n hx hb dX8_node_204 rfl (lv_at hl 2 rfl) ?_
      refine m_get (v := .int (nI N)) hx hb htu wu_in hown hK hP 0 (by decide) (htu _ U_1) rfl (m_v h0N) dX8_node_205 ?_
      refine lv_imul hx hb dX8_node_208 ?_
      refine m_top (y := nI (6 * N)) (pk_mul 6 N) ?_
      refine lv_iload hx hb dX8_node_209 (lv_at hl 0 rfl) ?_
      refine lv_iadd hx hb dX8_node_211 ?_
      refine m_top (y := nI (6 * N + 3)) (nI_add (6 * N) 3) ?_
      refine lv_iload hx hb dX8_node_212 (lv_at hl 0 rfl) ?_
      refine lv_iload hx hb dX8_node_214 (lv_at hl 1 rfl) ?_
      refine lv_icmp_ge (tgt := 244) hx hb dX8_node_216 (by decide) (fun c_34 => ?_) (fun c_34 => absurd (by decide) c_34)
      refine lv_bipush (v := (-9)) hx hb dX8_node_244 (by decide) ?_
      refine m_ast (j := 6 * N + 3) (x := (-9)) hx hb hK hP hDD hS 4 4 rfl (by omega) (by decide) (mW_a4 _ _ _ _ _) dX8_node_246 (fun H locs hP hS => ?_)
      refine lv_aload_n hx hb dX8_node_247 rfl (lv_at hl 2 rfl) ?_
      refine m_get (v := .ref (md G 5)) hx hb htu wu_in hown hK hP 5 (by decide) (htu _ U_7) rfl rfl dX8_node_248 ?_
      refine lv_bipush (v := 6) hx hb dX8_node_251 (by decide) ?_
      refine lv_aload_n hx hb dX8_node_253 rfl (lv_at hl 2 rfl) ?_
      refine m_get (v := .int (nI N)) hx hb htu wu_in hown hK hP 0 (by decide) (htu _ U_1) rfl (m_v h0N) dX8_node_254 ?_
      refine lv_imul hx hb dX8_node_257 ?_
      refine m_top (y := nI (6 * N)) (pk_mul 6 N) ?_
      refine lv_iload hx hb dX8_node_258 (lv_at hl 0 rfl) ?_
      refine lv_iadd hx hb dX8_node_260 ?_
      refine m_top (y := nI (6 * N + 3)) (nI_add (6 * N) 3) ?_
      refine lv_bipush (v := (-9)) hx hb dX8_node_261 (by decide) ?_
      refine m_ast (j := 6 * N + 3) (x := (-9)) hx hb hK hP hDD hS 5 5 rfl (by omega) (by decide) (mW_a5 _ _ _ _ _) dX8_node_263 (fun H locs hP hS => ?_)
      refine lv_iinc (v := 4) (lv' := [(7, .int 4), (6, .int 0), (0, .ref (mh G)), (1, .int 1), (2, .int v9), (3, .int a1), (4, .int a2), (5, .int a3)]) hx hb dX8_node_264 hl (k := 0) rfl (by decide) (by decide) rfl (fun ls hl => ?_)
      refine lv_goto (tgt := 191) hx hb dX8_node_267 (by decide) ?_
      refine lv_iload hx hb dX8_node_191 (lv_at hl 0 rfl) ?_
      refine lv_bipush (v := 6) hx hb dX8_node_193 (by decide) ?_
      refine lv_icmp_ge (tgt := 270) hx hb dX8_node_195 (by decide) (fun c_35 => absurd c_35 (by decide)) (fun c_35 => ?_)
      refine lv_aload_n hx hb dX8_node_198 rfl (lv_at hl 2 rfl) ?_
      refine m_get (v := .ref (md G 4)) hx hb htu wu_in hown hK hP 4 (by decide) (htu _ U_6) rfl rfl dX8_node_199 ?_
      refine lv_bipush (v := 6) hx hb dX8_node_202 (by decide) ?_
      refine lv_aload_n hx hb dX8_node_204 rfl (lv_at hl 2 rfl) ?_
      refine m_get (v := .int (nI N)) hx hb htu wu_in hown hK hP 0 (by decide) (htu _ U_1) rfl (m_v h0N) dX8_node_205 ?_
      refine lv_imul hx hb dX8_node_208 ?_
      refine m_top (y := nI (6 * N)) (pk_mul 6 N) ?_
      refine lv_iload hx hb dX8_node_209 (lv_at hl 0 rfl) ?_
      refine lv_iadd hx hb dX8_node_211 ?_
      refine m_top (y := nI (6 * N + 4)) (nI_add (6 * N) 4) ?_
      refine lv_iload hx hb dX8_node_212 (lv_at hl 0 rfl) ?_
      refine lv_iload hx hb dX8_node_214 (lv_at hl 1 rfl) ?_
      refine lv_icmp_ge (tgt := 244) hx hb dX8_node_216 (by decide) (fun c_36 => ?_) (fun c_36 => absurd (by decide) c_36)
      refine lv_bipush (v := (-9)) hx hb dX8_node_244 (by decide) ?_
      refine m_ast (j := 6 * N + 4) (x := (-9)) hx hb hK hP hDD hS 4 4 rfl (by omega) (by decide) (mW_a4 _ _ _ _ _) dX8_node_246 (fun H locs hP hS => ?_)
      refine lv_aload_n hx hb dX8_node_247 rfl (lv_at hl 2 rfl) ?_
      refine m_get (v := .ref (md G 5)) hx hb htu wu_in hown hK hP 5 (by decide) (htu _ U_7) rfl rfl dX8_node_248 ?_
      refine lv_bipush (v := 6) hx hb dX8_node_251 (by decide) ?_
      refine lv_aload_n hx hb dX8_node_253 rfl (lv_at hl 2 rfl) ?_
      refine m_get (v := .int (nI N)) hx hb htu wu_in hown hK hP 0 (by decide) (htu _ U_1) rfl (m_v h0N) dX8_node_254 ?_
      refine lv_imul hx hb dX8_node_257 ?_
      refine m_top (y := nI (6 * N)) (pk_mul 6 N) ?_
      refine lv_iload hx hb dX8_node_258 (lv_at hl 0 rfl) ?_
      refine lv_iadd hx hb dX8_node_260 ?_
      refine m_top (y := nI (6 * N + 4)) (nI_add (6 * N) 4) ?_
      refine lv_bipush (v := (-9)) hx hb dX8_node_261 (by decide) ?_
      refine m_ast (j := 6 * N + 4) (x := (-9)) hx hb hK hP hDD hS 5 5 rfl (by omega) (by decide) (mW_a5 _ _ _ _ _) dX8_node_263 (fun H locs hP hS => ?_)
      refine lv_iinc (v := 5) (lv' := [(7, .int 5), (6, .int 0), (0, .ref (mh G)), (1, .int 1), (2, .int v9), (3, .int a1), (4, .int a2), (5, .int a3)]) hx hb dX8_node_264 hl (k := 0) rfl (by decide) (by decide) rfl (fun ls hl => ?_)
      refine lv_goto (tgt := 191) hx hb dX8_node_267 (by decide) ?_
      refine lv_iload hx hb dX8_node_191 (lv_at hl 0 rfl) ?_
      refine lv_bipush (v := 6) hx hb dX8_node_193 (by decide) ?_
      refine lv_icmp_ge (tgt := 270) hx hb dX8_node_195 (by decide) (fun c_37 => absurd c_37 (by decide)) (fun c_37 => ?_)
      refine lv_aload_n hx hb dX8_node_198 rfl (lv_at hl 2 rfl) ?_
      refine m_get (v := .ref (md G 4)) hx hb htu wu_in hown hK hP 4 (by decide) (htu _ U_6) rfl rfl dX8_node_199 ?_
      refine lv_bipush (v := 6) hx hb dX8_node_202 (by decide) ?_
      refine lv_aload_n hx hb dX8_node_204 rfl (lv_at hl 2 rfl) ?_
      refine m_get (v := .int (nI N)) hx hb htu wu_in hown hK hP 0 (by decide) (htu _ U_1) rfl (m_v h0N) dX8_node_205 ?_
      refine lv_imul hx hb dX8_node_208 ?_
      refine m_top (y := nI (6 * N)) (pk_mul 6 N) ?_
      refine lv_iload hx hb dX8_node_209 (lv_at hl 0 rfl) ?_
      refine lv_iadd hx hb dX8_node_211 ?_
      refine m_top (y := nI (6 * N + 5)) (nI_add (6 * N) 5) ?_
      refine lv_iload hx hb dX8_node_212 (lv_at hl 0 rfl) ?_
      refine lv_iload hx hb dX8_node_214 (lv_at hl 1 rfl) ?_
      refine lv_icmp_ge (tgt := 244) hx hb dX8_node_216 (by decide) (fun c_38 => ?_) (fun c_38 => absurd (by decide) c_38)
      refine lv_bipush (v := (-9)) hx hb dX8_node_244 (by decide) ?_
      refine m_ast (j := 6 * N + 5) (x := (-9)) hx hb hK hP hDD hS 4 4 rfl (by omega) (by decide) (mW_a4 _ _ _ _ _) dX8_node_246 (fun H locs hP hS => ?_)
      refine lv_aload_n hx hb dX8_node_247 rfl (lv_at hl 2 rfl) ?_
      refine m_get (v := .ref (md G 5)) hx hb htu wu_in hown hK hP 5 (by decide) (htu _ U_7) rfl rfl dX8_node_248 ?_
      refine lv_bipush (v := 6) hx hb dX8_node_251 (by decide) ?_
      refine lv_aload_n hx hb dX8_node_253 rfl (lv_at hl 2 rfl) ?_
      refine m_get (v := .int (nI N)) hx hb htu wu_in hown hK hP 0 (by decide) (htu _ U_1) rfl (m_v h0N) dX8_node_254 ?_
      refine lv_imul hx hb dX8_node_257 ?_
      refine m_top (y := nI (6 * N)) (pk_mul 6 N) ?_
      refine lv_iload hx hb dX8_node_258 (lv_at hl 0 rfl) ?_
      refine lv_iadd hx hb dX8_node_260 ?_
      refine m_top (y := nI (6 * N + 5)) (nI_add (6 * N) 5) ?_
      refine lv_bipush (v := (-9)) hx hb dX8_node_261 (by decide) ?_
      refine m_ast (j := 6 * N + 5) (x := (-9)) hx hb hK hP hDD hS 5 5 rfl (by omega) (by decide) (mW_a5 _ _ _ _ _) dX8_node_263 (fun H locs hP hS => ?_)
      refine lv_iinc (v := 6) (lv' := [(7, .int 6), (6, .int 0), (0, .ref (mh G)), (1, .int 1), (2, .int v9), (3, .int a1), (4, .int a2), (5, .int a3)]) hx hb dX8_node_264 hl (k := 0) rfl (by decide) (by decide) rfl (fun ls hl => ?_)
      refine lv_goto (tgt := 191) hx hb dX8_node_267 (by decide) ?_
      refine lv_iload hx hb dX8_node_191 (lv_at hl 0 rfl) ?_
      refine lv_bipush (v := 6) hx hb dX8_node_193 (by decide) ?_
      refine lv_icmp_ge (tgt := 270) hx hb dX8_node_195 (by decide) (fun c_39 => ?_) (fun c_39 => absurd (by decide) c_39)
      refine lv_iconst (v := 0) hx hb dX8_node_270 (by decide) ?_
      refine lv_istore (lv' := [(7, .int 0), (6, .int 0), (0, .ref (mh G)), (1, .int 1), (2, .int v9), (3, .int a1), (4, .int a2), (5, .int a3)]) hx hb dX8_node_271 hl (by decide) rfl (fun ls hl => ?_)
      refine lv_iload hx hb dX8_node_273 (lv_at hl 0 rfl) ?_
      refine lv_iload hx hb dX8_node_275 (lv_at hl 1 rfl) ?_
      refine lv_icmp_ge (tgt := 310) hx hb dX8_node_277 (by decide) (fun c_40 => ?_) (fun c_40 => absurd (by decide) c_40)
      refine lv_aload_n hx hb dX8_node_310 rfl (lv_at hl 2 rfl) ?_
      refine lv_dup hx hb dX8_node_311 rfl ?_
      refine m_get (v := .int (nI N)) hx hb htu wu_in hown hK hP 0 (by decide) (htu _ U_1) rfl (m_v h0N) dX8_node_312 ?_
      refine lv_iconst (v := 1) hx hb dX8_node_315 (by decide) ?_
      refine lv_iadd hx hb dX8_node_316 ?_
      refine m_top (y := nI (N + 1)) (nI_add N 1) ?_
      refine m_put (ty := .int) (x := nI (N + 1)) hx hb htu wu_in hown hK hP hDD hS 0 (by decide) (htu _ U_1) rfl rfl (by decide +kernel) rfl rfl (mO_s0 _ _ _) dX8_node_317 (fun H locs hP hS => ?_)
      refine lv_aload_n hx hb dX8_node_320 rfl (lv_at hl 2 rfl) ?_
      refine m_get (v := .int (nI (N + 1))) hx hb htu wu_in hown hK hP 0 (by decide) (htu _ U_1) rfl rfl dX8_node_321 ?_
      refine lv_iconst (v := 1) hx hb dX8_node_324 (by decide) ?_
      refine lv_isub hx hb dX8_node_325 ?_
      refine m_top (y := nI N) (nI_pred _) ?_
      exact m_iret (v := nI N) hx hb hr hK hP hS (Or.inr ⟨gv2, trivial, Or.inr ⟨by omega, rfl, rfl⟩⟩) dX8_node_326 hlocks
    · skip
      have nc_24 : N = 120 := (nI_eq (a := N) (b := 120) (by omega) (by omega)).mp c_24
      refine lv_bipush (v := (-2)) hx hb dX8_node_122 (by decide) ?_
      exact m_iret (v := (-2)) hx hb hr hK hP hS (Or.inr ⟨gv2, trivial, Or.inl ⟨nc_24, rfl, rfl⟩⟩) dX8_node_124 hlocks
  · skip
    subst gv1
    refine lv_if_eq (tgt := 41) hx hb dX8_node_21 (by decide) (fun c_41 => ?_) (fun c_41 => absurd (by decide) c_41)
    refine lv_iconst (v := (-1)) hx hb dX8_node_41 (by decide) ?_
    exact m_iret (v := (-1)) hx hb hr hK hP hS (Or.inl ⟨rfl, rfl, fun h => gv2 h.1⟩) dX8_node_42 hlocks

