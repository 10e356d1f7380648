theorem dX8_node_54 : decode cX8_node 54 = .ok (.aload_n 0, 1) := by decide +kernel
theorem dX8_node_55 : decode cX8_node 55 = .ok (.iload_n 3, 1) := by decide +kernel
theorem dX8_node_56 : decode cX8_node 56 = .ok (.invokevirtual 155, 3) := by decide +kernel
theorem dX8_node_59 : decode cX8_node 59 = .ok (.ifCond .eq 52, 3) := by decide +kernel
theorem dX8_node_219 : decode cX8_node 219 = .ok (.iload 7, 2) := by decide +kernel
theorem dX8_node_221 : decode cX8_node 221 = .ok (.ifCond .ne 7, 3) := by decide +kernel
theorem dX8_node_224 : decode cX8_node 224 = .ok (.iload_n 3, 1) := by decide +kernel
theorem dX8_node_225 : decode cX8_node 225 = .ok (.goto 21, 3) := by decide +kernel
theorem dX8_node_280 : decode cX8_node 280 = .ok (.aload_n 0, 1) := by decide +kernel
theorem dX8_node_281 : decode cX8_node 281 = .ok (.getfield 25, 3) := by decide +kernel
theorem dX8_node_284 : decode cX8_node 284 = .ok (.aload_n 0, 1) := by decide +kernel
theorem dX8_node_285 : decode cX8_node 285 = .ok (.getfield 19, 3) := by decide +kernel
theorem dX8_node_288 : decode cX8_node 288 = .ok (.bipush 6, 2) := by decide +kernel
theorem dX8_node_290 : decode cX8_node 290 = .ok (.aload_n 0, 1) := by decide +kernel
theorem dX8_node_291 : decode cX8_node 291 = .ok (.getfield 137, 3) := by decide +kernel
theorem dX8_node_294 : decode cX8_node 294 = .ok (.imul, 1) := by decide +kernel
theorem dX8_node_295 : decode cX8_node 295 = .ok (.iload 7, 2) := by decide +kernel
theorem dX8_node_297 : decode cX8_node 297 = .ok (.iadd, 1) := by decide +kernel
theorem dX8_node_298 : decode cX8_node 298 = .ok (.iaload, 1) := by decide +kernel
theorem dX8_node_299 : decode cX8_node 299 = .ok (.aload_n 0, 1) := by decide +kernel
theorem dX8_node_300 : decode cX8_node 300 = .ok (.getfield 137, 3) := by decide +kernel
theorem dX8_node_303 : decode cX8_node 303 = .ok (.iastore, 1) := by decide +kernel
theorem dX8_node_304 : decode cX8_node 304 = .ok (.iinc 7 1, 3) := by decide +kernel
theorem dX8_node_307 : decode cX8_node 307 = .ok (.goto (-34), 3) := by decide +kernel
theorem dX8_node_111 : decode cX8_node 111 = .ok (.iconst (-1), 1) := by decide +kernel
theorem dX8_node_112 : decode cX8_node 112 = .ok (.ireturn, 1) := by decide +kernel
set_option maxHeartbeats 4000000 in
set_option maxRecDepth 100000 in
/-- node of kind 3 -/
theorem m_node_3 (l : Launch) (G : mG) (hDD : mDD G) (o : Nat → Int32) (F : Nat → Nat → Int32) (N : Nat) (v9 : Int32) (a1 : Int32) (a2 : Int32) (a3 : Int32) (h0N : o 0 = nI N) (hN : N ≤ 120) (sz : Nat) : Met l yX8_node (wU yX8_node cX8_node 8 (some .int)) { frames := 3, cells := 0, slots := 0, locals := 64 } (mPc G o F sz [.ref (mh G), .int 3, .int v9, .int a1, .int a2, .int a3]) (mQi G sz (fun r u => (r = -1 ∧ u = (o, F) ∧ ¬ ((∃ w, w < 26 ∧ v9 = nI w) ∧ (Fre N F a1))) ∨ ((∃ w, w < 26 ∧ v9 = nI w) ∧ (Fre N F a1) ∧ ((N = 120 ∧ r = -2 ∧ u = (o, F)) ∨ (N < 120 ∧ r = nI N ∧ ∃ qa, qa < N ∧ a1 = nI qa ∧ u = (upd o 0 (nI (N + 1)), fput (fput (fput (fput (fput (fput (fput (fput (fput (fput (fput (fput (fput (fput (fput (fput (fput F 1 N 3) 2 N v9) 3 N 1) 6 N ((-9))) 4 (6 * N + 0) (nI qa)) 5 (6 * N + 0) ((-9))) 4 (6 * N + 1) ((-9))) 5 (6 * N + 1) ((-9))) 4 (6 * N + 2) ((-9))) 5 (6 * N + 2) ((-9))) 4 (6 * N + 3) ((-9))) 5 (6 * N + 3) ((-9))) 4 (6 * N + 4) ((-9))) 5 (6 * N + 4) ((-9))) 4 (6 * N + 5) ((-9))) 5 (6 * N + 5) ((-9))) 6 qa (nI N))))))) 0 0 (mA G sz) := by
  refine Met.ofW (cc := cX8_node) (maxL := 8) (ret := (some .int)) (by decide) rfl ?_
  intro p e s m args below meth c s₁ B hml hv
  obtain ⟨rfl, hsz, hP, hK⟩ := hv
  have hx := B.exec
  have hb := B.bytes
  have hr := B.returns
  have htu : ∀ w ∈ WU, w.before _ s = true := fun w h => atoms_spec (ws := (wU yX8_node cX8_node 8 (some .int))) B.pre w (List.mem_cons_of_mem _ h)
  have hown : s.vm.findClass RX8 = some m.cls := findClass_of_methodNamed B.named
  have hlocks := B.notSynchronized
  subst hsz
  have hS : va_S (mA G s.heap.size) s.heap s.heap [] := va_S.rf
  have hl := lv_entry ([.ref (mh G), .int 3, .int v9, .int a1, .int a2, .int a3]) (n := 8) (Nat.le_of_ble_eq_true rfl)
  rw [lg_entry_eq]
  generalize (lg_sl ([.ref (mh G), .int 3, .int v9, .int a1, .int a2, .int a3]) ++ List.replicate (8 - (lg_sl ([.ref (mh G), .int 3, .int v9, .int a1, .int a2, .int a3])).length) Slot.unset).toArray = ls at hl ⊢
  have hl : lv_has ls 8 [(0, .ref (mh G)), (1, .int 3), (2, .int v9), (3, .int a1), (4, .int a2), (5, .int a3)] := hl
  obtain ⟨H, hHe⟩ : ∃ H : Heap, H = s.heap := ⟨_, rfl⟩
  rw [← hHe] at hP
  have hS : va_S (mA G s.heap.size) s.heap H [] := by rw [hHe]; exact va_S.rf
  refine W.heq hHe ?_
  refine lv_iload_n hx hb dX8_node_0 rfl (lv_at hl 1 rfl) ?_
  refine lv_iconst (v := 0) hx hb dX8_node_1 (by decide) ?_
  refine lv_bipush (v := 11) hx hb dX8_node_2 (by decide) ?_
  refine m_ci (m_runS (As := [.int 3, .int 0, .int 11]) (rest := []) ⟨hx, hb, hml, hown, htu⟩ (m_inn l G hDD o F 3 0 11 H.size) (va_cwS 3 htu gU_X8_in rfl rfl rfl (by decide +kernel) ⟨Nat.le_of_ble_eq_true rfl, Nat.le_of_ble_eq_true rfl⟩) hP hK rfl hl.1 rfl (lv_room (Nat.le_of_ble_eq_true rfl)) dX8_node_4) hS (fun r_1 o_2 F_3 H locs hw_4 hP hS => ?_)
  try dsimp only at hw_4
  obtain ⟨hu, hc⟩ := hw_4
  obtain ⟨h91, h92⟩ := Prod.mk.inj hu
  have h91 := h91.symm
  subst h91
  have h92 := h92.symm
  subst h92
  obtain rfl : r_1 = 1 := by rcases hc with h | h; exact h.1; exact absurd (by decide) h.2
  refine lv_if_eq (tgt := 41) hx hb dX8_node_7 (by decide) (fun c_5 => absurd c_5 (by decide)) (fun c_5 => ?_)
  refine lv_iload_n hx hb dX8_node_10 rfl (lv_at hl 1 rfl) ?_
  refine lv_iconst (v := 1) hx hb dX8_node_11 (by decide) ?_
  refine lv_icmp_ne (tgt := 24) hx hb dX8_node_12 (by decide) (fun c_6 => ?_) (fun c_6 => absurd c_6 (by decide))
  refine lv_iload_n hx hb dX8_node_24 rfl (lv_at hl 1 rfl) ?_
  refine m_ci (m_runS (As := [.int 3]) (rest := []) ⟨hx, hb, hml, hown, htu⟩ (m_hasName l G hDD o F 3 H.size) (va_cwS 1 htu gU_X8_hasName rfl rfl rfl (by decide +kernel) ⟨Nat.le_of_ble_eq_true rfl, Nat.le_of_ble_eq_true rfl⟩) hP hK rfl hl.1 rfl (lv_room (Nat.le_of_ble_eq_true rfl)) dX8_node_25) hS (fun r_7 o_8 F_9 H locs hw_10 hP hS => ?_)
  try dsimp only at hw_10
  obtain ⟨hu, hc⟩ := hw_10
  obtain ⟨h91, h92⟩ := Prod.mk.inj hu
  have h91 := h91.symm
  subst h91
  have h92 := h92.symm
  subst h92
  obtain rfl : r_7 = 1 := hc.trans (by decide)
  refine lv_if_eq (tgt := 43) hx hb dX8_node_28 (by decide) (fun c_11 => absurd c_11 (by decide)) (fun c_11 => ?_)
  refine lv_iload_n hx hb dX8_node_31 rfl (lv_at hl 2 rfl) ?_
  refine lv_iconst (v := 0) hx hb dX8_node_32 (by decide) ?_
  refine lv_bipush (v := 25) hx hb dX8_node_33 (by decide) ?_
  refine m_ci (m_runS (As := [.int v9, .int 0, .int 25]) (rest := []) ⟨hx, hb, hml, hown, htu⟩ (m_inn l G hDD o F v9 0 25 H.size) (va_cwS 3 htu gU_X8_in rfl rfl rfl (by decide +kernel) ⟨Nat.le_of_ble_eq_true rfl, Nat.le_of_ble_eq_true rfl⟩) hP hK rfl hl.1 rfl (lv_room (Nat.le_of_ble_eq_true rfl)) dX8_node_35) hS (fun r_12 o_13 F_14 H locs hw_15 hP hS => ?_)
  try dsimp only at hw_15
  obtain ⟨hu, hc⟩ := hw_15
  obtain ⟨h91, h92⟩ := Prod.mk.inj hu
  have h91 := h91.symm
  subst h91
  have h92 := h92.symm
  subst h92
  rw [in_w (N := 26) (by decide) (by decide)] at hc
  rcases hc with ⟨gv1, gv2⟩ | ⟨gv1, gv2⟩
  · skip
    subst gv1
    refine lv_if_ne (tgt := 43) hx hb dX8_node_38 (by decide) (fun c_16 => ?_) (fun c_16 => absurd c_16 (by decide))
    refine lv_iload_n hx hb dX8_node_43 rfl (lv_at hl 1 rfl) ?_
    refine m_ci (m_runS (As := [.int 3]) (rest := []) ⟨hx, hb, hml, hown, htu⟩ (m_partsOf l G hDD o F 3 H.size) (va_cwS 1 htu gU_X8_partsOf rfl rfl rfl (by decide +kernel) ⟨Nat.le_of_ble_eq_true rfl, Nat.le_of_ble_eq_true rfl⟩) hP hK rfl hl.1 rfl (lv_room (Nat.le_of_ble_eq_true rfl)) dX8_node_44) hS (fun r_17 o_18 F_19 H locs hw_20 hP hS => ?_)
    try dsimp only at hw_20
    obtain ⟨hu, hc⟩ := hw_20
    obtain ⟨h91, h92⟩ := Prod.mk.inj hu
    have h91 := h91.symm
    subst h91
    have h92 := h92.symm
    subst h92
    obtain rfl : r_17 = 1 := hc.trans (by decide)
    refine lv_istore (lv' := [(6, .int 1), (0, .ref (mh G)), (1, .int 3), (2, .int v9), (3, .int a1), (4, .int a2), (5, .int a3)]) hx hb dX8_node_47 hl (by decide) rfl (fun ls hl => ?_)
    refine lv_iload hx hb dX8_node_49 (lv_at hl 0 rfl) ?_
    refine lv_if_le (tgt := 62) hx hb dX8_node_51 (by decide) (fun c_21 => absurd c_21 (by decide)) (fun c_21 => ?_)
    refine lv_aload_n hx hb dX8_node_54 rfl (lv_at hl 1 rfl) ?_
    refine lv_iload_n hx hb dX8_node_55 rfl (lv_at hl 4 rfl) ?_
    refine m_ci (m_runV (As := [.int a1]) (rest := []) ⟨hx, hb, hml, hown, htu⟩ (m_isFree l G hDD o F N a1 h0N hN H.size) (cwV 1 htu gU_X8_isFree rfl rfl rfl (by decide +kernel) ⟨Nat.le_of_ble_eq_true rfl, Nat.le_of_ble_eq_true rfl⟩) hP hK rfl hl.1 rfl (lv_room (Nat.le_of_ble_eq_true rfl)) dX8_node_56) hS (fun r_22 o_23 F_24 H locs hw_25 hP hS => ?_)
    try dsimp only at hw_25
    obtain ⟨hu, hc⟩ := hw_25
    obtain ⟨h91, h92⟩ := Prod.mk.inj hu
    have h91 := h91.symm
    subst h91
    have h92 := h92.symm
    subst h92
    rcases hc with ⟨gf1, gf2⟩ | ⟨gf1, gf2⟩
    · skip
      subst gf1
      obtain ⟨qa, l0, rfl, f0⟩ := gf2
      refine lv_if_eq (tgt := 111) hx hb dX8_node_59 (by decide) (fun c_26 => absurd c_26 (by decide)) (fun c_26 => ?_)
      refine lv_iload hx hb dX8_node_62 (lv_at hl 0 rfl) ?_
      refine lv_iconst (v := 1) hx hb dX8_node_64 (by decide) ?_
      refine lv_icmp_le (tgt := 83) hx hb dX8_node_65 (by decide) (fun c_27 => ?_) (fun c_27 => absurd (by decide) c_27)
      refine lv_iload hx hb dX8_node_83 (lv_at hl 0 rfl) ?_
      refine lv_iconst (v := 2) hx hb dX8_node_85 (by decide) ?_
      refine lv_icmp_le (tgt := 113) hx hb dX8_node_86 (by decide) (fun c_28 => ?_) (fun c_28 => absurd (by decide) c_28)
      refine lv_aload_n hx hb dX8_node_113 rfl (lv_at hl 1 rfl) ?_
      refine m_get (v := .int (nI N)) hx hb htu wu_in hown hK hP 0 (by decide) (htu _ U_1) rfl (m_v h0N) dX8_node_114 ?_
      refine lv_bipush (v := 120) hx hb dX8_node_117 (by decide) ?_
      refine lv_icmp_ne (tgt := 125) hx hb dX8_node_119 (by decide) (fun c_29 => ?_) (fun c_29 => ?_)
      · skip
        have nc_29 : ¬ N = 120 := fun h9 => c_29 ((nI_eq (a := N) (b := 120) (by omega) (by omega)).mpr h9)
        refine lv_aload_n hx hb dX8_node_125 rfl (lv_at hl 1 rfl) ?_
        refine m_get (v := .ref (md G 1)) hx hb htu wu_in hown hK hP 1 (by decide) (htu _ U_2) rfl rfl dX8_node_126 ?_
        refine lv_aload_n hx hb dX8_node_129 rfl (lv_at hl 1 rfl) ?_
        refine m_get (v := .int (nI N)) hx hb htu wu_in hown hK hP 0 (by decide) (htu _ U_1) rfl (m_v h0N) dX8_node_130 ?_
        refine lv_iload_n hx hb dX8_node_133 rfl (lv_at hl 2 rfl) ?_
        refine m_ast (j := N) (x := 3) hx hb hK hP hDD hS 1 1 rfl (by omega) (by decide) (mW_a1 _ _ _ _ _) dX8_node_134 (fun H locs hP hS => ?_)
        refine lv_aload_n hx hb dX8_node_135 rfl (lv_at hl 1 rfl) ?_
        refine m_get (v := .ref (md G 2)) hx hb htu wu_in hown hK hP 2 (by decide) (htu _ U_3) rfl rfl dX8_node_136 ?_
        refine lv_aload_n hx hb dX8_node_139 rfl (lv_at hl 1 rfl) ?_
        refine m_get (v := .int (nI N)) hx hb htu wu_in hown hK hP 0 (by decide) (htu _ U_1) rfl (m_v h0N) dX8_node_140 ?_
        refine lv_iload_n hx hb dX8_node_143 rfl (lv_at hl 2 rfl) ?_
        refine lv_if_eq (tgt := 159) hx hb dX8_node_144 (by decide) (fun c_30 => absurd c_30 (by decide)) (fun c_30 => ?_)
        refine lv_iload_n hx hb dX8_node_147 rfl (lv_at hl 2 rfl) ?_
        refine lv_iconst (v := 1) hx hb dX8_node_148 (by decide) ?_
        refine lv_icmp_eq (tgt := 159) hx hb dX8_node_149 (by decide) (fun c_31 => absurd c_31 (by decide)) (fun c_31 => ?_)
        refine lv_iload_n hx hb dX8_node_152 rfl (lv_at hl 2 rfl) ?_
        refine m_ci (m_runS (As := [.int 3]) (rest := [.int (nI N), .ref (md G 2)]) ⟨hx, hb, hml, hown, htu⟩ (m_hasName l G hDD o (fput F 1 N 3) 3 H.size) (va_cwS 1 htu gU_X8_hasName rfl rfl rfl (by decide +kernel) ⟨Nat.le_of_ble_eq_true rfl, Nat.le_of_ble_eq_true rfl⟩) hP hK rfl hl.1 rfl (lv_room (Nat.le_of_ble_eq_true rfl)) dX8_node_153) hS (fun r_32 o_33 F_34 H locs hw_35 hP hS => ?_)
        try dsimp only at hw_35
        obtain ⟨hu, hc⟩ := hw_35
        obtain ⟨h91, h92⟩ := Prod.mk.inj hu
        have h91 := h91.symm
        subst h91
        have h92 := h92.symm
        subst h92
        obtain rfl : r_32 = 1 := hc.trans (by decide)
        refine lv_if_eq (tgt := 163) hx hb dX8_node_156 (by decide) (fun c_36 => absurd c_36 (by decide)) (fun c_36 => ?_)
        refine lv_iload_n hx hb dX8_node_159 rfl (lv_at hl 3 rfl) ?_
        refine lv_goto (tgt := 165) hx hb dX8_node_160 (by decide) ?_
        refine m_ast (j := N) (x := v9) hx hb hK hP hDD hS 2 2 rfl (by omega) (by decide) (mW_a2 _ _ _ _ _) dX8_node_165 (fun H locs hP hS => ?_)
        refine lv_aload_n hx hb dX8_node_166 rfl (lv_at hl 1 rfl) ?_
        refine m_get (v := .ref (md G 3)) hx hb htu wu_in hown hK hP 3 (by decide) (htu _ U_4) rfl rfl dX8_node_167 ?_
        refine lv_aload_n hx hb dX8_node_170 rfl (lv_at hl 1 rfl) ?_
        refine m_get (v := .int (nI N)) hx hb htu wu_in hown hK hP 0 (by decide) (htu _ U_1) rfl (m_v h0N) dX8_node_171 ?_
        refine lv_iload hx hb dX8_node_174 (lv_at hl 0 rfl) ?_
        refine m_ast (j := N) (x := 1) hx hb hK hP hDD hS 3 3 rfl (by omega) (by decide) (mW_a3 _ _ _ _ _) dX8_node_176 (fun H locs hP hS => ?_)
        refine lv_aload_n hx hb dX8_node_177 rfl (lv_at hl 1 rfl) ?_
        refine m_get (v := .ref (md G 6)) hx hb htu wu_in hown hK hP 6 (by decide) (htu _ U_5) rfl rfl dX8_node_178 ?_
        refine lv_aload_n hx hb dX8_node_181 rfl (lv_at hl 1 rfl) ?_
        refine m_get (v := .int (nI N)) hx hb htu wu_in hown hK hP 0 (by decide) (htu _ U_1) rfl (m_v h0N) dX8_node_182 ?_
        refine lv_bipush (v := (-9)) hx hb dX8_node_185 (by decide) ?_
        refine m_ast (j := N) (x := (-9)) hx hb hK hP hDD hS 6 6 rfl (by omega) (by decide) (mW_a6 _ _ _ _ _) dX8_node_187 (fun H locs hP hS => ?_)
        refine lv_iconst (v := 0) hx hb dX8_node_188 (by decide) ?_
        refine lv_istore (lv' := [(7, .int 0), (6, .int 1), (0, .ref (mh G)), (1, .int 3), (2, .int v9), (3, .int (nI qa)), (4, .int a2), (5, .int a3)]) hx hb dX8_node_189 hl (by decide) rfl (fun ls hl => ?_)
        refine lv_iload hx hb dX8_node_191 (lv_at hl 0 rfl) ?_
        refine lv_bipush (v := 6) hx hb dX8_node_193 (by decide) ?_
        refine lv_icmp_ge (tgt := 270) hx hb dX8_node_195 (by decide) (fun c_37 => absurd c_37 (by decide)) (fun c_37 => ?_)
        refine lv_aload_n hx hb dX8_node_198 rfl (lv_at hl 2 rfl) ?_
        refine m_get (v := .ref (md G 4)) hx hb htu wu_in hown hK hP 4 (by decide) (htu _ U_6) rfl rfl dX8_node_199 ?_
        refine lv_bipush (v := 6) hx hb dX8_node_202 (by decide) ?_
        refine lv_aload_n hx hb dX8_node_204 rfl (lv_at hl 2 rfl) ?_
        refine m_get (v := .int (nI N)) hx hb htu wu_in hown hK hP 0 (by decide) (htu _ U_1) rfl (m_v h0N) dX8_node_205 ?_
        refine lv_imul hx hb dX8_node_208 ?_
        refine m_top (y := nI (6 * N)) (pk_mul 6 N) ?_
        refine lv_iload hx hb dX8_node_209 (lv_at hl 0 rfl) ?_
        refine lv_iadd hx hb dX8_node_211 ?_
        refine m_top (y := nI (6 * N)) (Int32.add_zero _) ?_
        refine lv_iload hx hb dX8_node_212 (lv_at hl 0 rfl) ?_
        refine lv_iload hx hb dX8_node_214 (lv_at hl 1 rfl) ?_
        refine lv_icmp_ge (tgt := 244) hx hb dX8_node_216 (by decide) (fun c_38 => absurd c_38 (by decide)) (fun c_38 => ?_)
        refine lv_iload hx hb dX8_node_219 (lv_at hl 0 rfl) ?_
        refine lv_if_ne (tgt := 228) hx hb dX8_node_221 (by decide) (fun c_39 => absurd (by decide) c_39) (fun c_39 => ?_)
        refine lv_iload_n hx hb dX8_node_224 rfl (lv_at hl 5 rfl) ?_
        refine lv_goto (tgt := 246) hx hb dX8_node_225 (by decide) ?_
        refine m_ast (j := 6 * N) (x := nI qa) hx hb hK hP hDD hS 4 4 rfl (by omega) (by decide) (mW_a4 _ _ _ _ _) dX8_node_246 (fun H locs hP hS => ?_)
        refine lv_aload_n hx hb dX8_node_247 rfl (lv_at hl 2 rfl) ?_
        refine m_get (v := .ref (md G 5)) hx hb htu wu_in hown hK hP 5 (by decide) (htu _ U_7) rfl rfl dX8_node_248 ?_
        refine lv_bipush (v := 6) hx hb dX8_node_251 (by decide) ?_
        refine lv_aload_n hx hb dX8_node_253 rfl (lv_at hl 2 rfl) ?_
        refine m_get (v := .int (nI N)) hx hb htu wu_in hown hK hP 0 (by decide) (htu _ U_1) rfl (m_v h0N) dX8_node_254 ?_
        refine lv_imul hx hb dX8_node_257 ?_
        refine m_top (y := nI (6 * N)) (pk_mul 6 N) ?_
        refine lv_iload hx hb dX8_node_258 (lv_at hl 0 rfl) ?_
        refine lv_iadd hx hb dX8_node_260 ?_
        refine m_top (y := nI (6 * N)) (Int32.add_zero _) ?_
        refine lv_bipush (v := (-9)) hx hb dX8_node_261 (by decide) ?_
        refine m_ast (j := 6 * N) (x := (-9)) hx hb hK hP hDD hS 5 5 rfl (by omega) (by decide) (mW_a5 _ _ _ _ _) dX8_node_263 (fun H locs hP hS => ?_)
        refine lv_iinc (v := 1) (lv' := [(7, .int 1), (6, .int 1), (0, .ref (mh G)), (1, .int 3), (2, .int v9), (3, .int (nI qa)), (4, .int a2), (5, .int a3)]) hx hb dX8_node_264 hl (k := 0) rfl (by decide) (by decide) rfl (fun ls hl => ?_)
        refine lv_goto (tgt := 191) hx hb dX8_node_267 (by decide) ?_
        refine lv_iload hx hb dX8_node_191 (lv_at hl 0 rfl) ?_
        refine lv_bipush (v := 6) hx hb dX8_node_193 (by decide) ?_
        refine lv_icmp_ge (tgt := 270) hx hb dX8_node_195 (by decide) (fun c_40 => absurd c_40 (by decide)) (fun c_40 => ?_)
        refine lv_aload_n hx hb dX8_node_198 rfl (lv_at hl 2 rfl) ?_
        refine m_get (v := .ref (md G 4)) hx hb htu wu_in hown hK hP 4 (by decide) (htu _ U_6) rfl rfl dX8_node_199 ?_
        refine lv_bipush (v := 6) hx hb dX8_node_202 (by decide) ?_
        refine lv_aload_n hx hb dX8_node_204 rfl (lv_at hl 2 rfl) ?_
        refine m_get (v := .int (nI N)) hx hb htu wu_in hown hK hP 0 (by decide) (htu _ U_1) rfl (m_v h0N) dX8_node_205 ?_
        refine lv_imul hx hb dX8_node_208 ?_
        refine m_top (y := nI (6 * N)) (pk_mul 6 N) ?_
        refine lv_iload hx hb dX8_node_209 (lv_at hl 0 rfl) ?_
        refine lv_iadd hx hb dX8_node_211 ?_
        refine m_top (y := nI (6 * N + 1)) (nI_add (6 * N) 1) ?_
        refine lv_iload hx hb dX8_node_212 (lv_at hl 0 rfl) ?_
        refine lv_iload hx hb dX8_node_214 (lv_at hl 1 rfl) ?_
        refine lv_icmp_ge (tgt := 244) hx hb dX8_node_216 (by decide) (fun c_41 => ?_) (fun c_41 => absurd (by decide) c_41)
        refine lv_bipush (v := (-9)) hx hb dX8_node_244 (by decide) ?_
        refine m_ast (j := 6 * N + 1) (x := (-9)) hx hb hK hP hDD hS 4 4 rfl (by omega) (by decide) (mW_a4 _ _ _ _ _) dX8_node_246 (fun H locs hP hS => ?_)
        refine lv_aload_n hx hb dX8_node_247 rfl (lv_at hl 2 rfl) ?_
        refine m_get (v := .ref (md G 5)) hx hb htu wu_in hown hK hP 5 (by decide) (htu _ U_7) rfl rfl dX8_node_248 ?_
        refine lv_bipush (v := 6) hx hb dX8_node_251 (by decide) ?_
        refine lv_aload_n hx hb dX8_node_253 rfl (lv_at hl 2 rfl) ?_
        refine m_get (v := .int (nI N)) hx hb htu wu_in hown hK hP 0 (by decide) (htu _ U_1) rfl (m_v h0N) dX8_node_254 ?_
        refine lv_imul hx hb dX8_node_257 ?_
        refine m_top (y := nI (6 * N)) (pk_mul 6 N) ?_
        refine lv_iload hx hb dX8_node_258 (lv_at hl 0 rfl) ?_
        refine lv_iadd hx hb dX8_node_260 ?_
        refine m_top (y := nI (6 * N + 1)) (nI_add (6 * N) 1) ?_
        refine lv_bipush (v := (-9)) hx hb dX8_node_261 (by decide) ?_
        refine m_ast (j := 6 * N + 1) (x := (-9)) hx hb hK hP hDD hS 5 5 rfl (by omega) (by decide) (mW_a5 _ _ _ _ _) dX8_node_263 (fun H locs hP hS => ?_)
        refine lv_iinc (v := 2) (lv' := [(7, .int 2), (6, .int 1), (0, .ref (mh G)), (1, .int 3), (2, .int v9), (3, .int (nI qa)), (4, .int a2), (5, .int a3)]) hx hb dX8_node_264 hl (k := 0) rfl (by decide) (by decide) rfl (fun ls hl => ?_)
        refine lv_goto (tgt := 191) hx hb dX8_node_267 (by decide) ?_
        refine lv_iload hx hb dX8_node_191 (lv_at hl 0 rfl) ?_
        refine lv_bipush (v := 6) hx hb dX8_node_193 (by decide) ?_
        refine lv_icmp_ge (tgt := 270) hx hb dX8_node_195 (by decide) (fun c_42 => absurd c_42 (by decide)) (fun c_42 => ?_)
        refine lv_aload_n hx hb dX8_node_198 rfl (lv_at hl 2 rfl) ?_
        refine m_get (v := .ref (md G 4)) hx hb htu wu_in hown hK hP 4 (by decide) (htu _ U_6) rfl rfl dX8_node_199 ?_
        refine lv_bipush (v := 6) hx hb dX8_node_202 (by decide) ?_
        refine lv_aload_n hx hb dX8_node_204 rfl (lv_at hl 2 rfl) ?_
        refine m_get (v := .int (nI N)) hx hb htu wu_in hown hK hP 0 (by decide) (htu _ U_1) rfl (m_v h0N) dX8_node_205 ?_
        refine lv_imul hx hb dX8_node_208 ?_
        refine m_top (y := nI (6 * N)) (pk_mul 6 N) ?_
        refine lv_iload hx hb dX8_node_209 (lv_at hl 0 rfl) ?_
        refine lv_iadd hx hb dX8_node_211 ?_
        refine m_top (y := nI (6 * N + 2)) (nI_add (6 * N) 2) ?_
        refine lv_iload hx hb dX8_node_212 (lv_at hl 0 rfl) ?_
        refine lv_iload hx hb dX8_node_214 (lv_at hl 1 rfl) ?_
        refine lv_icmp_ge (tgt := 244) hx hb dX8_node_216 (by decide) (fun c_43 => ?_) (fun c_43 => absurd (by decide) c_43)
        refine lv_bipush (v := (-9)) hx hb dX8_node_244 (by decide) ?_
        refine m_ast (j := 6 * N + 2) (x := (-9)) hx hb hK hP hDD hS 4 4 rfl (by omega) (by decide) (mW_a4 _ _ _ _ _) dX8_node_246 (fun H locs hP hS => ?_)
        refine lv_aload_n hx hb dX8_node_247 rfl (lv_at hl 2 rfl) ?_
        refine m_get (v := .ref (md G 5)) hx hb htu wu_in hown hK hP 5 (by decide) (htu _ U_7) rfl rfl dX8_node_248 ?_
        refine lv_bipush (v := 6) hx hb dX8_node_251 (by decide) ?_
        refine lv_aload_n hx hb dX8_node_253 rfl (lv_at hl 2 rfl) ?_
        refine m_get (v := .int (nI N)) hx hb htu wu_in hown hK hP 0 (by decide) (htu _ U_1) rfl (m_v h0N) dX8_node_254 ?_
        refine lv_imul hx hb dX8_node_257 ?_
        refine m_top (y := nI (6 * N)) (pk_mul 6 N) ?_
        refine lv_iload hx hb dX8_node_258 (lv_at hl 0 rfl) ?_
        refine lv_iadd hx hb dX8_node_260 ?_
        refine m_top (y := nI (6 * N + 2)) (nI_add (6 * N) 2) ?_
        refine lv_bipush (v := (-9)) hx hb dX8_node_261 (by decide) ?_
        refine m_ast (j := 6 * N + 2) (x := (-9)) hx hb hK hP hDD hS 5 5 rfl (by omega) (by decide) (mW_a5 _ _ _ _ _) dX8_node_263 (fun H locs hP hS => ?_)
        refine lv_iinc (v := 3) (lv' := [(7, .int 3), (6, .int 1), (0, .ref (mh G)), (1, .int 3), (2, .int v9), (3, .int (nI qa)), (4, .int a2), (5, .int a3)]) hx hb dX8_node_264 hl (k := 0) rfl (by decide) (by decide) rfl (fun ls hl => ?_)
        refine lv_goto (tgt := 191) hx hb dX8_node_267 (by decide) ?_
        refine lv_iload hx hb dX8_node_191 (lv_at hl 0 rfl) ?_
        refine lv_bipush (v := 6) hx hb dX8_node_193 (by decide) ?_
        refine lv_icmp_ge (tgt := 270) hx hb dX8_node_195 (by decide) (fun c_44 => absurd c_44 (by decide)) (fun c_44 => ?_)
        refine lv_aload_n hx hb dX8_node_198 rfl (lv_at hl 2 rfl) ?_
        refine m_get (v := .ref (md G 4)) hx hb htu wu_in hown hK hP 4 (by decide) (htu _ U_6) rfl rfl dX8_node_199 ?_
        refine lv_bipush (v := 6) hx hb dX8_node_202 (by decide) ?_
        refine lv_aload_n hx hb dX8_node_204 rfl (lv_at hl 2 rfl) ?_
        refine m_get (v := .int (nI N)) hx hb htu wu_in hown hK hP 0 (by decide) (htu _ U_1) rfl (m_v h0N) dX8_node_205 ?_
        refine lv_imul hx hb dX8_node_208 ?_
        refine m_top (y := nI (6 * N)) (pk_mul 6 N) ?_
        refine lv_iload hx hb dX8_node_209 (lv_at hl 0 rfl) ?_
        refine lv_iadd hx hb dX8_node_211 ?_
        refine m_top (y := nI (6 * N + 3)) (nI_add (6 * N) 3) ?_
        refine lv_iload hx hb dX8_node_212 (lv_at hl 0 rfl) ?_
        refine lv_iload hx hb dX8_node_214 (lv_at hl 1 rfl) ?_
        refine lv_icmp_ge (tgt := 244) hx hb dX8_node_216 (by decide) (fun c_45 => ?_) (fun c_45 => absurd (by decide) c_45)
        refine lv_bipush (v := (-9)) hx hb dX8_node_244 (by decide) ?_
        refine m_ast (j := 6 * N + 3) (x := (-9)) hx hb hK hP hDD hS 4 4 rfl (by omega) (by decide) (mW_a4 _ _ _ _ _) dX8_node_246 (fun H locs hP hS => ?_)
        refine lv_aload_n hx hb dX8_node_247 rfl (lv_at hl 2 rfl) ?_
        refine m_get (v := .ref (md G 5)) hx hb htu wu_in hown hK hP 5 (by decide) (htu _ U_7) rfl rfl dX8_node_248 ?_
        refine lv_bipush (v := 6) hx hb dX8_node_251 (by decide) ?_
        refine lv_aload_n hx hb dX8_node_253 rfl (lv_at hl 2 rfl) ?_
        refine m_get (v := .int (nI N)) hx hb htu wu_in hown hK hP 0 (by decide) (htu _ U_1) rfl (m_v h0N) dX8_node_254 ?_
        refine lv_imul hx hb dX8_node_257 ?_
        refine m_top (y := nI (6 * N)) (pk_mul 6 N) ?_
        refine lv_iload hx hb dX8_node_258 (lv_at hl 0 rfl) ?_
        refine lv_iadd hx hb dX8_node_260 ?_
        refine m_top (y := nI (6 * N + 3)) (nI_add (6 * N) 3) ?_
        refine lv_bipush (v := (-9)) hx hb dX8_node_261 (by decide) ?_
        refine m_ast (j := 6 * N + 3) (x := (-9)) hx hb hK hP hDD hS 5 5 rfl (by omega) (by decide) (mW_a5 _ _ _ _ _) dX8_node_263 (fun H locs hP hS => ?_)
        refine lv_iinc (v := 4) (lv' := [(7, .int 4), (6, .int 1), (0, .ref (mh G)), (1, .int 3), (2, .int v9), (3, .int (nI qa)), (4, .int a2), (5, .int a3)]) hx hb dX8_node_264 hl (k := 0) rfl (by decide) (by decide) rfl (fun ls hl => ?_)
        refine lv_goto (tgt := 191) hx hb dX8_node_267 (by decide) ?_
        refine lv_iload hx hb dX8_node_191 (lv_at hl 0 rfl) ?_
        refine lv_bipush (v := 6) hx hb dX8_node_193 (by decide) ?_
        refine lv_icmp_ge (tgt := 270) hx hb dX8_node_195 (by decide) (fun c_46 => absurd c_46 (by decide)) (fun c_46 => ?_)
        refine lv_aload_n hx hb dX8_node_198 rfl (lv_at hl 2 rfl) ?_
        refine m_get (v := .ref (md G 4)) hx hb htu wu_in hown hK hP 4 (by decide) (htu _ U_6) rfl rfl dX8_node_199 ?_
        refine lv_bipush (v := 6) hx hb dX8_node_202 (by decide) ?_
        refine lv_aload_n hx hb dX8_node_204 rfl (lv_at hl 2 rfl) ?_
        refine m_get (v := .int (nI N)) hx hb htu wu_in hown hK hP 0 (by decide) (htu _ U_1) rfl (m_v h0N) dX8_node_205 ?_
        refine lv_imul hx hb dX8_node_208 ?_
        refine m_top (y := nI (6 * N)) (pk_mul 6 N) ?_
        refine lv_iload hx hb dX8_node_209 (lv_at hl 0 rfl) ?_
        refine lv_iadd hx hb dX8_node_211 ?_
        refine m_top (y := nI (6 * N + 4)) (nI_add (6 * N) 4) ?_
        refine lv_iload hx hb dX8_node_212 (lv_at hl 0 rfl) ?_
        refine lv_iload hx hb dX8_node_214 (lv_at hl 1 rfl) ?_
        refine lv_icmp_ge (tgt := 244) hx hb dX8_node_216 (by decide) (fun c_47 => ?_) (fun c_47 => absurd (by decide) c_47)
        refine lv_bipush (v := (-9)) hx hb dX8_node_244 (by decide) ?_
        refine m_ast (j := 6 * N + 4) (x := (-9)) hx hb hK hP hDD hS 4 4 rfl (by omega) (by decide) (mW_a4 _ _ _ _ _) dX8_node_246 (fun H locs hP hS => ?_)
        refine lv_aload_n hx hb dX8_node_247 rfl (lv_at hl 2 rfl) ?_
        refine m_get (v := .ref (md G 5)) hx hb htu wu_in hown hK hP 5 (by decide) (htu _ U_7) rfl rfl dX8_node_248 ?_
        refine lv_bipush (v := 6) hx hb dX8_node_251 (by decide) ?_
        refine lv_aload_n hx hb dX8_node_253 rfl (lv_at hl 2 rfl) ?_
        refine m_get (v := .int (nI N)) hx hb htu wu_in hown hK hP 0 (by decide) (htu _ U_1) rfl (m_v h0N) dX8_node_254 ?_
        refine lv_imul hx hb dX8_node_257 ?_
        refine m_top (y := nI (6 * N)) (pk_mul 6 N) ?_
        refine lv_iload hx hb dX8_node_258 (lv_at hl 0 rfl) ?_
        refine lv_iadd hx hb dX8_node_260 ?_
        refine m_top (y := nI (6 * N + 4)) (nI_add (6 * N) 4) ?_
        refine lv_bipush (v := (-9)) hx hb dX8_node_261 (by decide) ?_
        refine m_ast (j := 6 * N + 4) (x := (-9)) hx hb hK hP hDD hS 5 5 rfl (by omega) (by decide) (mW_a5 _ _ _ _ _) dX8_node_263 (fun H locs hP hS => ?_)
        refine lv_iinc (v := 5) (lv' := [(7, .int 5), (6, .int 1), (0, .ref (mh G)), (1, .int 3), (2, .int v9), (3, .int (nI qa)), (4, .int a2), (5, .int a3)]) hx hb dX8_node_264 hl (k := 0) rfl (by decide) (by decide) rfl (fun ls hl => ?_)
        refine lv_goto (tgt := 191) hx hb dX8_node_267 (by decide) ?_
        refine lv_iload hx hb dX8_node_191 (lv_at hl 0 rfl) ?_
        refine lv_bipush (v := 6) hx hb dX8_node_193 (by decide) ?_
        refine lv_icmp_ge (tgt := 270) hx hb dX8_node_195 (by decide) (fun c_48 => absurd c_48 (by decide)) (fun c_48 => ?_)
        refine lv_aload_n hx hb dX8_node_198 rfl (lv_at hl 2 rfl) ?_
        refine m_get (v := .ref (md G 4)) hx hb htu wu_in hown hK hP 4 (by decide) (htu _ U_6) rfl rfl dX8_node_199 ?_
        refine lv_bipush (v := 6) hx hb dX8_node_202 (by decide) ?_
        refine lv_aload_n hx hb dX8_node_204 rfl (lv_at hl 2 rfl) ?_
        refine m_get (v := .int (nI N)) hx hb htu wu_in hown hK hP 0 (by decide) (htu _ U_1) rfl (m_v h0N) dX8_node_205 ?_
        refine lv_imul hx hb dX8_node_208 ?_
        refine m_top (y := nI (6 * N)) (pk_mul 6 N) ?_
        refine lv_iload hx hb dX8_node_209 (lv_at hl 0 rfl) ?_
        refine lv_iadd hx hb dX8_node_211 ?_
        refine m_top (y := nI (6 * N + 5)) (nI_add (6 * N) 5) ?_
        refine lv_iload hx hb dX8_node_212 (lv_at hl 0 rfl) ?_
        refine lv_iload hx hb dX8_node_214 (lv_at hl 1 rfl) ?_
        refine lv_icmp_ge (tgt := 244) hx hb dX8_node_216 (by decide) (fun c_49 => ?_) (fun c_49 => absurd (by decide) c_49)
        refine lv_bipush (v := (-9)) hx hb dX8_node_244 (by decide) ?_
        refine m_ast (j := 6 * N + 5) (x := (-9)) hx hb hK hP hDD hS 4 4 rfl (by omega) (by decide) (mW_a4 _ _ _ _ _) dX8_node_246 (fun H locs hP hS => ?_)
        refine lv_aload_n hx hb dX8_node_247 rfl (lv_at hl 2 rfl) ?_
        refine m_get (v := .ref (md G 5)) hx hb htu wu_in hown hK hP 5 (by decide) (htu _ U_7) rfl rfl dX8_node_248 ?_
        refine lv_bipush (v := 6) hx hb dX8_node_251 (by decide) ?_
        refine lv_aload_n hx hb dX8_node_253 rfl (lv_at hl 2 rfl) ?_
        refine m_get (v := .int (nI N)) hx hb htu wu_in hown hK hP 0 (by decide) (htu _ U_1) rfl (m_v h0N) dX8_node_254 ?_
        refine lv_imul hx hb dX8_node_257 ?_
        refine m_top (y := nI (6 * N)) (pk_mul 6 N) ?_
        refine lv_iload hx hb dX8_node_258 (lv_at hl 0 rfl) ?_
        refine lv_iadd hx hb dX8_node_260 ?_
        refine m_top (y := nI (6 * N + 5)) (nI_add (6 * N) 5) ?_
        refine lv_bipush (v := (-9)) hx hb dX8_node_261 (by decide) ?_
        refine m_ast (j := 6 * N + 5) (x := (-9)) hx hb hK hP hDD hS 5 5 rfl (by omega) (by decide) (mW_a5 _ _ _ _ _) dX8_node_263 (fun H locs hP hS => ?_)
        refine lv_iinc (v := 6) (lv' := [(7, .int 6), (6, .int 1), (0, .ref (mh G)), (1, .int 3), (2, .int v9), (3, .int (nI qa)), (4, .int a2), (5, .int a3)]) hx hb dX8_node_264 hl (k := 0) rfl (by decide) (by decide) rfl (fun ls hl => ?_)
        refine lv_goto (tgt := 191) hx hb dX8_node_267 (by decide) ?_
        refine lv_iload hx hb dX8_node_191 (lv_at hl 0 rfl) ?_
        refine lv_bipush (v := 6) hx hb dX8_node_193 (by decide) ?_
        refine lv_icmp_ge (tgt := 270) hx hb dX8_node_195 (by decide) (fun c_50 => ?_) (fun c_50 => absurd (by decide) c_50)
        refine lv_iconst (v := 0) hx hb dX8_node_270 (by decide) ?_
        refine lv_istore (lv' := [(7, .int 0), (6, .int 1), (0, .ref (mh G)), (1, .int 3), (2, .int v9), (3, .int (nI qa)), (4, .int a2), (5, .int a3)]) hx hb dX8_node_271 hl (by decide) rfl (fun ls hl => ?_)
        refine lv_iload hx hb dX8_node_273 (lv_at hl 0 rfl) ?_
        refine lv_iload hx hb dX8_node_275 (lv_at hl 1 rfl) ?_
        refine lv_icmp_ge (tgt := 310) hx hb dX8_node_277 (by decide) (fun c_51 => absurd c_51 (by decide)) (fun c_51 => ?_)
        refine lv_aload_n hx hb dX8_node_280 rfl (lv_at hl 2 rfl) ?_
        refine m_get (v := .ref (md G 6)) hx hb htu wu_in hown hK hP 6 (by decide) (htu _ U_5) rfl rfl dX8_node_281 ?_
        refine lv_aload_n hx hb dX8_node_284 rfl (lv_at hl 2 rfl) ?_
        refine m_get (v := .ref (md G 4)) hx hb htu wu_in hown hK hP 4 (by decide) (htu _ U_6) rfl rfl dX8_node_285 ?_
        refine lv_bipush (v := 6) hx hb dX8_node_288 (by decide) ?_
        refine lv_aload_n hx hb dX8_node_290 rfl (lv_at hl 2 rfl) ?_
        refine m_get (v := .int (nI N)) hx hb htu wu_in hown hK hP 0 (by decide) (htu _ U_1) rfl (m_v h0N) dX8_node_291 ?_
        refine lv_imul hx hb dX8_node_294 ?_
        refine m_top (y := nI (6 * N)) (pk_mul 6 N) ?_
        refine lv_iload hx hb dX8_node_295 (lv_at hl 0 rfl) ?_
        refine lv_iadd hx hb dX8_node_297 ?_
        refine m_top (y := nI (6 * N)) (Int32.add_zero _) ?_
        refine m_ald (j := 6 * N) (v := nI qa) hx hb hK hP 4 4 rfl (by omega) (by decide) (by simp [fput, upd]) dX8_node_298 ?_
        refine lv_aload_n hx hb dX8_node_299 rfl (lv_at hl 2 rfl) ?_
        refine m_get (v := .int (nI N)) hx hb htu wu_in hown hK hP 0 (by decide) (htu _ U_1) rfl (m_v h0N) dX8_node_300 ?_
        refine m_ast (j := qa) (x := nI N) hx hb hK hP hDD hS 6 6 rfl (by omega) (by decide) (mW_a6 _ _ _ _ _) dX8_node_303 (fun H locs hP hS => ?_)
        refine lv_iinc (v := 1) (lv' := [(7, .int 1), (6, .int 1), (0, .ref (mh G)), (1, .int 3), (2, .int v9), (3, .int (nI qa)), (4, .int a2), (5, .int a3)]) hx hb dX8_node_304 hl (k := 0) rfl (by decide) (by decide) rfl (fun ls hl => ?_)
        refine lv_goto (tgt := 273) hx hb dX8_node_307 (by decide) ?_
        refine lv_iload hx hb dX8_node_273 (lv_at hl 0 rfl) ?_
        refine lv_iload hx hb dX8_node_275 (lv_at hl 1 rfl) ?_
        refine lv_icmp_ge (tgt := 310) hx hb dX8_node_277 (by decide) (fun c_52 => ?_) (fun c_52 => absurd (by decide) c_52)
        refine lv_aload_n hx hb dX8_node_310 rfl (lv_at hl 2 rfl) ?_
        refine lv_dup hx hb dX8_node_311 rfl ?_
        refine m_get (v := .int (nI N)) hx hb htu wu_in hown hK hP 0 (by decide) (htu _ U_1) rfl (m_v h0N) dX8_node_312 ?_
        refine lv_iconst (v := 1) hx hb dX8_node_315 (by decide) ?_
        refine lv_iadd hx hb dX8_node_316 ?_
        refine m_top (y := nI (N + 1)) (nI_add N 1) ?_
        refine m_put (ty := .int) (x := nI (N + 1)) hx hb htu wu_in hown hK hP hDD hS 0 (by decide) (htu _ U_1) rfl rfl (by decide +kernel) rfl rfl (mO_s0 _ _ _) dX8_node_317 (fun H locs hP hS => ?_)
        refine lv_aload_n hx hb dX8_node_320 rfl (lv_at hl 2 rfl) ?_
        refine m_get (v := .int (nI (N + 1))) hx hb htu wu_in hown hK hP 0 (by decide) (htu _ U_1) rfl rfl dX8_node_321 ?_
        refine lv_iconst (v := 1) hx hb dX8_node_324 (by decide) ?_
        refine lv_isub hx hb dX8_node_325 ?_
        refine m_top (y := nI N) (nI_pred _) ?_
        exact m_iret (v := nI N) hx hb hr hK hP hS (Or.inr ⟨gv2, ⟨qa, l0, rfl, f0⟩, Or.inr ⟨by omega, rfl, qa, l0, rfl, rfl⟩⟩) dX8_node_326 hlocks
      · skip
        have nc_29 : N = 120 := (nI_eq (a := N) (b := 120) (by omega) (by omega)).mp c_29
        refine lv_bipush (v := (-2)) hx hb dX8_node_122 (by decide) ?_
        exact m_iret (v := (-2)) hx hb hr hK hP hS (Or.inr ⟨gv2, ⟨qa, l0, rfl, f0⟩, Or.inl ⟨nc_29, rfl, rfl⟩⟩) dX8_node_124 hlocks
    · skip
      subst gf1
      refine lv_if_eq (tgt := 111) hx hb dX8_node_59 (by decide) (fun c_53 => ?_) (fun c_53 => absurd (by decide) c_53)
      refine lv_iconst (v := (-1)) hx hb dX8_node_111 (by decide) ?_
      exact m_iret (v := (-1)) hx hb hr hK hP hS (Or.inl ⟨rfl, rfl, fun h => gf2 h.2⟩) dX8_node_112 hlocks
  · skip
    subst gv1
    refine lv_if_ne (tgt := 43) hx hb dX8_node_38 (by decide) (fun c_54 => absurd (by decide) c_54) (fun c_54 => ?_)
    refine lv_iconst (v := (-1)) hx hb dX8_node_41 (by decide) ?_
    exact m_iret (v := (-1)) hx hb hr hK hP hS (Or.inl ⟨rfl, rfl, fun h => gv2 h.1⟩) dX8_node_42 hlocks

