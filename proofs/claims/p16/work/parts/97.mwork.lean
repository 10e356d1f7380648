theorem dX8_made_0 : decode cX8_made 0 = .ok (.aload_n 0, 1) := by decide +kernel
theorem dX8_made_1 : decode cX8_made 1 = .ok (.getfield 103, 3) := by decide +kernel
theorem dX8_made_4 : decode cX8_made 4 = .ok (.aload_n 0, 1) := by decide +kernel
theorem dX8_made_5 : decode cX8_made 5 = .ok (.getfield 325, 3) := by decide +kernel
theorem dX8_made_8 : decode cX8_made 8 = .ok (.iload_n 1, 1) := by decide +kernel
theorem dX8_made_9 : decode cX8_made 9 = .ok (.iastore, 1) := by decide +kernel
theorem dX8_made_10 : decode cX8_made 10 = .ok (.aload_n 0, 1) := by decide +kernel
theorem dX8_made_11 : decode cX8_made 11 = .ok (.getfield 106, 3) := by decide +kernel
theorem dX8_made_14 : decode cX8_made 14 = .ok (.aload_n 0, 1) := by decide +kernel
theorem dX8_made_15 : decode cX8_made 15 = .ok (.getfield 325, 3) := by decide +kernel
theorem dX8_made_18 : decode cX8_made 18 = .ok (.iload_n 2, 1) := by decide +kernel
theorem dX8_made_19 : decode cX8_made 19 = .ok (.iastore, 1) := by decide +kernel
theorem dX8_made_20 : decode cX8_made 20 = .ok (.aload_n 0, 1) := by decide +kernel
theorem dX8_made_21 : decode cX8_made 21 = .ok (.getfield 109, 3) := by decide +kernel
theorem dX8_made_24 : decode cX8_made 24 = .ok (.aload_n 0, 1) := by decide +kernel
theorem dX8_made_25 : decode cX8_made 25 = .ok (.getfield 325, 3) := by decide +kernel
theorem dX8_made_28 : decode cX8_made 28 = .ok (.iload_n 3, 1) := by decide +kernel
theorem dX8_made_29 : decode cX8_made 29 = .ok (.iastore, 1) := by decide +kernel
theorem dX8_made_30 : decode cX8_made 30 = .ok (.aload_n 0, 1) := by decide +kernel
theorem dX8_made_31 : decode cX8_made 31 = .ok (.dup, 1) := by decide +kernel
theorem dX8_made_32 : decode cX8_made 32 = .ok (.getfield 325, 3) := by decide +kernel
theorem dX8_made_35 : decode cX8_made 35 = .ok (.iconst 1, 1) := by decide +kernel
theorem dX8_made_36 : decode cX8_made 36 = .ok (.iadd, 1) := by decide +kernel
theorem dX8_made_37 : decode cX8_made 37 = .ok (.putfield 325, 3) := by decide +kernel
theorem dX8_made_40 : decode cX8_made 40 = .ok (.aload_n 0, 1) := by decide +kernel
theorem dX8_made_41 : decode cX8_made 41 = .ok (.getfield 325, 3) := by decide +kernel
theorem dX8_made_44 : decode cX8_made 44 = .ok (.iconst 1, 1) := by decide +kernel
theorem dX8_made_45 : decode cX8_made 45 = .ok (.isub, 1) := by decide +kernel
theorem dX8_made_46 : decode cX8_made 46 = .ok (.ireturn, 1) := by decide +kernel
theorem dX8_env_0 : decode cX8_env 0 = .ok (.aload_n 0, 1) := by decide +kernel
theorem dX8_env_1 : decode cX8_env 1 = .ok (.getfield 115, 3) := by decide +kernel
theorem dX8_env_4 : decode cX8_env 4 = .ok (.aload_n 0, 1) := by decide +kernel
theorem dX8_env_5 : decode cX8_env 5 = .ok (.getfield 328, 3) := by decide +kernel
theorem dX8_env_8 : decode cX8_env 8 = .ok (.iload_n 1, 1) := by decide +kernel
theorem dX8_env_9 : decode cX8_env 9 = .ok (.iastore, 1) := by decide +kernel
theorem dX8_env_10 : decode cX8_env 10 = .ok (.aload_n 0, 1) := by decide +kernel
theorem dX8_env_11 : decode cX8_env 11 = .ok (.getfield 118, 3) := by decide +kernel
theorem dX8_env_14 : decode cX8_env 14 = .ok (.aload_n 0, 1) := by decide +kernel
theorem dX8_env_15 : decode cX8_env 15 = .ok (.getfield 328, 3) := by decide +kernel
theorem dX8_env_18 : decode cX8_env 18 = .ok (.iload_n 2, 1) := by decide +kernel
theorem dX8_env_19 : decode cX8_env 19 = .ok (.iastore, 1) := by decide +kernel
theorem dX8_env_20 : decode cX8_env 20 = .ok (.aload_n 0, 1) := by decide +kernel
theorem dX8_env_21 : decode cX8_env 21 = .ok (.getfield 121, 3) := by decide +kernel
theorem dX8_env_24 : decode cX8_env 24 = .ok (.aload_n 0, 1) := by decide +kernel
theorem dX8_env_25 : decode cX8_env 25 = .ok (.getfield 328, 3) := by decide +kernel
theorem dX8_env_28 : decode cX8_env 28 = .ok (.iload_n 3, 1) := by decide +kernel
theorem dX8_env_29 : decode cX8_env 29 = .ok (.iastore, 1) := by decide +kernel
theorem dX8_env_30 : decode cX8_env 30 = .ok (.aload_n 0, 1) := by decide +kernel
theorem dX8_env_31 : decode cX8_env 31 = .ok (.getfield 124, 3) := by decide +kernel
theorem dX8_env_34 : decode cX8_env 34 = .ok (.aload_n 0, 1) := by decide +kernel
theorem dX8_env_35 : decode cX8_env 35 = .ok (.getfield 328, 3) := by decide +kernel
theorem dX8_env_38 : decode cX8_env 38 = .ok (.iload 4, 2) := by decide +kernel
theorem dX8_env_40 : decode cX8_env 40 = .ok (.iastore, 1) := by decide +kernel
theorem dX8_env_41 : decode cX8_env 41 = .ok (.aload_n 0, 1) := by decide +kernel
theorem dX8_env_42 : decode cX8_env 42 = .ok (.dup, 1) := by decide +kernel
theorem dX8_env_43 : decode cX8_env 43 = .ok (.getfield 328, 3) := by decide +kernel
theorem dX8_env_46 : decode cX8_env 46 = .ok (.iconst 1, 1) := by decide +kernel
theorem dX8_env_47 : decode cX8_env 47 = .ok (.iadd, 1) := by decide +kernel
theorem dX8_env_48 : decode cX8_env 48 = .ok (.putfield 328, 3) := by decide +kernel
theorem dX8_env_51 : decode cX8_env 51 = .ok (.aload_n 0, 1) := by decide +kernel
theorem dX8_env_52 : decode cX8_env 52 = .ok (.getfield 328, 3) := by decide +kernel
theorem dX8_env_55 : decode cX8_env 55 = .ok (.iconst 1, 1) := by decide +kernel
theorem dX8_env_56 : decode cX8_env 56 = .ok (.isub, 1) := by decide +kernel
theorem dX8_env_57 : decode cX8_env 57 = .ok (.ireturn, 1) := by decide +kernel
theorem dX8_halts_0 : decode cX8_halts 0 = .ok (.aload_n 0, 1) := by decide +kernel
theorem dX8_halts_1 : decode cX8_halts 1 = .ok (.getfield 331, 3) := by decide +kernel
theorem dX8_halts_4 : decode cX8_halts 4 = .ok (.ifCond .eq 18, 3) := by decide +kernel
theorem dX8_halts_22 : decode cX8_halts 22 = .ok (.bipush (-9), 2) := by decide +kernel
theorem dX8_halts_24 : decode cX8_halts 24 = .ok (.ireturn, 1) := by decide +kernel
theorem dX8_halts_7 : decode cX8_halts 7 = .ok (.aload_n 0, 1) := by decide +kernel
theorem dX8_halts_8 : decode cX8_halts 8 = .ok (.iconst 0, 1) := by decide +kernel
theorem dX8_halts_9 : decode cX8_halts 9 = .ok (.putfield 331, 3) := by decide +kernel
theorem dX8_halts_12 : decode cX8_halts 12 = .ok (.aload_n 0, 1) := by decide +kernel
theorem dX8_halts_13 : decode cX8_halts 13 = .ok (.iload_n 1, 1) := by decide +kernel
theorem dX8_halts_14 : decode cX8_halts 14 = .ok (.putfield 131, 3) := by decide +kernel
theorem dX8_halts_17 : decode cX8_halts 17 = .ok (.aload_n 0, 1) := by decide +kernel
theorem dX8_halts_18 : decode cX8_halts 18 = .ok (.iload_n 2, 1) := by decide +kernel
theorem dX8_halts_19 : decode cX8_halts 19 = .ok (.putfield 134, 3) := by decide +kernel
set_option maxHeartbeats 4000000 in
set_option maxRecDepth 100000 in
/-- made -/
theorem m_made (l : Launch) (G : mG) (hDD : mDD G) (o : Nat → Int32) (F : Nat → Nat → Int32) (n : Nat) (x : Int32) (y : Int32) (w9 : Int32) (h0N : o 51 = nI n) (hN : n < 400) (sz : Nat) : Met l yX8_made (wU yX8_made cX8_made 4 (some .int)) { frames := 0, cells := 0, slots := 0, locals := 0 } (mPc G o F sz [.ref (mh G), .int x, .int y, .int w9]) (mQi G sz (fun r u => r = nI n ∧ u = (upd o 51 (nI (n + 1)), fput (fput (fput F 52 n x) 53 n y) 54 n w9))) 0 0 (mA G sz) := by
  refine Met.ofW (cc := cX8_made) (maxL := 4) (ret := (some .int)) (by decide) rfl ?_
  intro p e s m args below meth c s₁ B hml hv
  obtain ⟨rfl, hsz, hP, hK⟩ := hv
  have hx := B.exec
  have hb := B.bytes
  have hr := B.returns
  have htu : ∀ w ∈ WU, w.before _ s = true := fun w h => atoms_spec (ws := (wU yX8_made cX8_made 4 (some .int))) B.pre w (List.mem_cons_of_mem _ h)
  have hown : s.vm.findClass RX8 = some m.cls := findClass_of_methodNamed B.named
  have hlocks := B.notSynchronized
  subst hsz
  have hS : va_S (mA G s.heap.size) s.heap s.heap [] := va_S.rf
  have hl := lv_entry ([.ref (mh G), .int x, .int y, .int w9]) (n := 4) (Nat.le_of_ble_eq_true rfl)
  rw [lg_entry_eq]
  generalize (lg_sl ([.ref (mh G), .int x, .int y, .int w9]) ++ List.replicate (4 - (lg_sl ([.ref (mh G), .int x, .int y, .int w9])).length) Slot.unset).toArray = ls at hl ⊢
  have hl : lv_has ls 4 [(0, .ref (mh G)), (1, .int x), (2, .int y), (3, .int w9)] := hl
  obtain ⟨H, hHe⟩ : ∃ H : Heap, H = s.heap := ⟨_, rfl⟩
  rw [← hHe] at hP
  have hS : va_S (mA G s.heap.size) s.heap H [] := by rw [hHe]; exact va_S.rf
  refine W.heq hHe ?_
  refine lv_aload_n hx hb dX8_made_0 rfl (lv_at hl 0 rfl) ?_
  refine m_get (v := .ref (md G 52)) hx hb htu wu_in hown hK hP 52 (by decide) (htu _ U_237) rfl rfl dX8_made_1 ?_
  refine lv_aload_n hx hb dX8_made_4 rfl (lv_at hl 0 rfl) ?_
  refine m_get (v := .int (nI n)) hx hb htu wu_in hown hK hP 51 (by decide) (htu _ U_216) rfl (m_v h0N) dX8_made_5 ?_
  refine lv_iload_n hx hb dX8_made_8 rfl (lv_at hl 1 rfl) ?_
  refine m_ast (j := n) (x := x) hx hb hK hP hDD hS 31 52 rfl (by omega) (by decide) (mW_a52 _ _ _ _ _) dX8_made_9 (fun H locs hP hS => ?_)
  refine lv_aload_n hx hb dX8_made_10 rfl (lv_at hl 0 rfl) ?_
  refine m_get (v := .ref (md G 53)) hx hb htu wu_in hown hK hP 53 (by decide) (htu _ U_238) rfl rfl dX8_made_11 ?_
  refine lv_aload_n hx hb dX8_made_14 rfl (lv_at hl 0 rfl) ?_
  refine m_get (v := .int (nI n)) hx hb htu wu_in hown hK hP 51 (by decide) (htu _ U_216) rfl (m_v h0N) dX8_made_15 ?_
  refine lv_iload_n hx hb dX8_made_18 rfl (lv_at hl 2 rfl) ?_
  refine m_ast (j := n) (x := y) hx hb hK hP hDD hS 32 53 rfl (by omega) (by decide) (mW_a53 _ _ _ _ _) dX8_made_19 (fun H locs hP hS => ?_)
  refine lv_aload_n hx hb dX8_made_20 rfl (lv_at hl 0 rfl) ?_
  refine m_get (v := .ref (md G 54)) hx hb htu wu_in hown hK hP 54 (by decide) (htu _ U_239) rfl rfl dX8_made_21 ?_
  refine lv_aload_n hx hb dX8_made_24 rfl (lv_at hl 0 rfl) ?_
  refine m_get (v := .int (nI n)) hx hb htu wu_in hown hK hP 51 (by decide) (htu _ U_216) rfl (m_v h0N) dX8_made_25 ?_
  refine lv_iload_n hx hb dX8_made_28 rfl (lv_at hl 3 rfl) ?_
  refine m_ast (j := n) (x := w9) hx hb hK hP hDD hS 33 54 rfl (by omega) (by decide) (mW_a54 _ _ _ _ _) dX8_made_29 (fun H locs hP hS => ?_)
  refine lv_aload_n hx hb dX8_made_30 rfl (lv_at hl 0 rfl) ?_
  refine lv_dup hx hb dX8_made_31 rfl ?_
  refine m_get (v := .int (nI n)) hx hb htu wu_in hown hK hP 51 (by decide) (htu _ U_216) rfl (m_v h0N) dX8_made_32 ?_
  refine lv_iconst (v := 1) hx hb dX8_made_35 (by decide) ?_
  refine lv_iadd hx hb dX8_made_36 ?_
  refine m_top (y := nI (n + 1)) (nI_add n 1) ?_
  refine m_put (ty := .int) (x := nI (n + 1)) hx hb htu wu_in hown hK hP hDD hS 51 (by decide) (htu _ U_216) rfl rfl (by decide +kernel) rfl rfl (mO_s51 _ _ _) dX8_made_37 (fun H locs hP hS => ?_)
  refine lv_aload_n hx hb dX8_made_40 rfl (lv_at hl 0 rfl) ?_
  refine m_get (v := .int (nI (n + 1))) hx hb htu wu_in hown hK hP 51 (by decide) (htu _ U_216) rfl rfl dX8_made_41 ?_
  refine lv_iconst (v := 1) hx hb dX8_made_44 (by decide) ?_
  refine lv_isub hx hb dX8_made_45 ?_
  refine m_top (y := nI n) (nI_pred _) ?_
  exact m_iret (v := nI n) hx hb hr hK hP hS ⟨rfl, rfl⟩ dX8_made_46 hlocks

set_option maxHeartbeats 4000000 in
set_option maxRecDepth 100000 in
/-- env -/
theorem m_env (l : Launch) (G : mG) (hDD : mDD G) (o : Nat → Int32) (F : Nat → Nat → Int32) (n : Nat) (x : Int32) (y : Int32) (w9 : Int32) (nx : Int32) (h0N : o 56 = nI n) (hN : n < 700) (sz : Nat) : Met l yX8_env (wU yX8_env cX8_env 5 (some .int)) { frames := 0, cells := 0, slots := 0, locals := 0 } (mPc G o F sz [.ref (mh G), .int x, .int y, .int w9, .int nx]) (mQi G sz (fun r u => r = nI n ∧ u = (upd o 56 (nI (n + 1)), fput (fput (fput (fput F 57 n x) 58 n y) 59 n w9) 60 n nx))) 0 0 (mA G sz) := by
  refine Met.ofW (cc := cX8_env) (maxL := 5) (ret := (some .int)) (by decide) rfl ?_
  intro p e s m args below meth c s₁ B hml hv
  obtain ⟨rfl, hsz, hP, hK⟩ := hv
  have hx := B.exec
  have hb := B.bytes
  have hr := B.returns
  have htu : ∀ w ∈ WU, w.before _ s = true := fun w h => atoms_spec (ws := (wU yX8_env cX8_env 5 (some .int))) B.pre w (List.mem_cons_of_mem _ h)
  have hown : s.vm.findClass RX8 = some m.cls := findClass_of_methodNamed B.named
  have hlocks := B.notSynchronized
  subst hsz
  have hS : va_S (mA G s.heap.size) s.heap s.heap [] := va_S.rf
  have hl := lv_entry ([.ref (mh G), .int x, .int y, .int w9, .int nx]) (n := 5) (Nat.le_of_ble_eq_true rfl)
  rw [lg_entry_eq]
  generalize (lg_sl ([.ref (mh G), .int x, .int y, .int w9, .int nx]) ++ List.replicate (5 - (lg_sl ([.ref (mh G), .int x, .int y, .int w9, .int nx])).length) Slot.unset).toArray = ls at hl ⊢
  have hl : lv_has ls 5 [(0, .ref (mh G)), (1, .int x), (2, .int y), (3, .int w9), (4, .int nx)] := hl
  obtain ⟨H, hHe⟩ : ∃ H : Heap, H = s.heap := ⟨_, rfl⟩
  rw [← hHe] at hP
  have hS : va_S (mA G s.heap.size) s.heap H [] := by rw [hHe]; exact va_S.rf
  refine W.heq hHe ?_
  refine lv_aload_n hx hb dX8_env_0 rfl (lv_at hl 0 rfl) ?_
  refine m_get (v := .ref (md G 57)) hx hb htu wu_in hown hK hP 57 (by decide) (htu _ U_252) rfl rfl dX8_env_1 ?_
  refine lv_aload_n hx hb dX8_env_4 rfl (lv_at hl 0 rfl) ?_
  refine m_get (v := .int (nI n)) hx hb htu wu_in hown hK hP 56 (by decide) (htu _ U_217) rfl (m_v h0N) dX8_env_5 ?_
  refine lv_iload_n hx hb dX8_env_8 rfl (lv_at hl 1 rfl) ?_
  refine m_ast (j := n) (x := x) hx hb hK hP hDD hS 35 57 rfl (by omega) (by decide) (mW_a57 _ _ _ _ _) dX8_env_9 (fun H locs hP hS => ?_)
  refine lv_aload_n hx hb dX8_env_10 rfl (lv_at hl 0 rfl) ?_
  refine m_get (v := .ref (md G 58)) hx hb htu wu_in hown hK hP 58 (by decide) (htu _ U_253) rfl rfl dX8_env_11 ?_
  refine lv_aload_n hx hb dX8_env_14 rfl (lv_at hl 0 rfl) ?_
  refine m_get (v := .int (nI n)) hx hb htu wu_in hown hK hP 56 (by decide) (htu _ U_217) rfl (m_v h0N) dX8_env_15 ?_
  refine lv_iload_n hx hb dX8_env_18 rfl (lv_at hl 2 rfl) ?_
  refine m_ast (j := n) (x := y) hx hb hK hP hDD hS 36 58 rfl (by omega) (by decide) (mW_a58 _ _ _ _ _) dX8_env_19 (fun H locs hP hS => ?_)
  refine lv_aload_n hx hb dX8_env_20 rfl (lv_at hl 0 rfl) ?_
  refine m_get (v := .ref (md G 59)) hx hb htu wu_in hown hK hP 59 (by decide) (htu _ U_254) rfl rfl dX8_env_21 ?_
  refine lv_aload_n hx hb dX8_env_24 rfl (lv_at hl 0 rfl) ?_
  refine m_get (v := .int (nI n)) hx hb htu wu_in hown hK hP 56 (by decide) (htu _ U_217) rfl (m_v h0N) dX8_env_25 ?_
  refine lv_iload_n hx hb dX8_env_28 rfl (lv_at hl 3 rfl) ?_
  refine m_ast (j := n) (x := w9) hx hb hK hP hDD hS 37 59 rfl (by omega) (by decide) (mW_a59 _ _ _ _ _) dX8_env_29 (fun H locs hP hS => ?_)
  refine lv_aload_n hx hb dX8_env_30 rfl (lv_at hl 0 rfl) ?_
  refine m_get (v := .ref (md G 60)) hx hb htu wu_in hown hK hP 60 (by decide) (htu _ U_255) rfl rfl dX8_env_31 ?_
  refine lv_aload_n hx hb dX8_env_34 rfl (lv_at hl 0 rfl) ?_
  refine m_get (v := .int (nI n)) hx hb htu wu_in hown hK hP 56 (by decide) (htu _ U_217) rfl (m_v h0N) dX8_env_35 ?_
  refine lv_iload hx hb dX8_env_38 (lv_at hl 4 rfl) ?_
  refine m_ast (j := n) (x := nx) hx hb hK hP hDD hS 38 60 rfl (by omega) (by decide) (mW_a60 _ _ _ _ _) dX8_env_40 (fun H locs hP hS => ?_)
  refine lv_aload_n hx hb dX8_env_41 rfl (lv_at hl 0 rfl) ?_
  refine lv_dup hx hb dX8_env_42 rfl ?_
  refine m_get (v := .int (nI n)) hx hb htu wu_in hown hK hP 56 (by decide) (htu _ U_217) rfl (m_v h0N) dX8_env_43 ?_
  refine lv_iconst (v := 1) hx hb dX8_env_46 (by decide) ?_
  refine lv_iadd hx hb dX8_env_47 ?_
  refine m_top (y := nI (n + 1)) (nI_add n 1) ?_
  refine m_put (ty := .int) (x := nI (n + 1)) hx hb htu wu_in hown hK hP hDD hS 56 (by decide) (htu _ U_217) rfl rfl (by decide +kernel) rfl rfl (mO_s56 _ _ _) dX8_env_48 (fun H locs hP hS => ?_)
  refine lv_aload_n hx hb dX8_env_51 rfl (lv_at hl 0 rfl) ?_
  refine m_get (v := .int (nI (n + 1))) hx hb htu wu_in hown hK hP 56 (by decide) (htu _ U_217) rfl rfl dX8_env_52 ?_
  refine lv_iconst (v := 1) hx hb dX8_env_55 (by decide) ?_
  refine lv_isub hx hb dX8_env_56 ?_
  refine m_top (y := nI n) (nI_pred _) ?_
  exact m_iret (v := nI n) hx hb hr hK hP hS ⟨rfl, rfl⟩ dX8_env_57 hlocks

set_option maxHeartbeats 4000000 in
set_option maxRecDepth 100000 in
/-- halts -/
theorem m_halts (l : Launch) (G : mG) (hDD : mDD G) (o : Nat → Int32) (F : Nat → Nat → Int32) (x : Int32) (y : Int32) (sz : Nat) : Met l yX8_halts (wU yX8_halts cX8_halts 3 (some .int)) { frames := 0, cells := 0, slots := 0, locals := 0 } (mPc G o F sz [.ref (mh G), .int x, .int y]) (mQi G sz (fun r u => r = -9 ∧ u = (if o 67 = 0 then o else upd (upd (upd o 67 0) 61 x) 65 y, F))) 0 0 (mA G sz) := by
  refine Met.ofW (cc := cX8_halts) (maxL := 3) (ret := (some .int)) (by decide) rfl ?_
  intro p e s m args below meth c s₁ B hml hv
  obtain ⟨rfl, hsz, hP, hK⟩ := hv
  have hx := B.exec
  have hb := B.bytes
  have hr := B.returns
  have htu : ∀ w ∈ WU, w.before _ s = true := fun w h => atoms_spec (ws := (wU yX8_halts cX8_halts 3 (some .int))) B.pre w (List.mem_cons_of_mem _ h)
  have hown : s.vm.findClass RX8 = some m.cls := findClass_of_methodNamed B.named
  have hlocks := B.notSynchronized
  subst hsz
  have hS : va_S (mA G s.heap.size) s.heap s.heap [] := va_S.rf
  have hl := lv_entry ([.ref (mh G), .int x, .int y]) (n := 3) (Nat.le_of_ble_eq_true rfl)
  rw [lg_entry_eq]
  generalize (lg_sl ([.ref (mh G), .int x, .int y]) ++ List.replicate (3 - (lg_sl ([.ref (mh G), .int x, .int y])).length) Slot.unset).toArray = ls at hl ⊢
  have hl : lv_has ls 3 [(0, .ref (mh G)), (1, .int x), (2, .int y)] := hl
  obtain ⟨H, hHe⟩ : ∃ H : Heap, H = s.heap := ⟨_, rfl⟩
  rw [← hHe] at hP
  have hS : va_S (mA G s.heap.size) s.heap H [] := by rw [hHe]; exact va_S.rf
  refine W.heq hHe ?_
  refine lv_aload_n hx hb dX8_halts_0 rfl (lv_at hl 0 rfl) ?_
  refine m_get (v := .int (o 67)) hx hb htu wu_in hown hK hP 67 (by decide) (htu _ U_221) rfl rfl dX8_halts_1 ?_
  refine lv_if_eq (tgt := 22) hx hb dX8_halts_4 (by decide) (fun c_1 => ?_) (fun c_1 => ?_)
  · skip
    refine lv_bipush (v := (-9)) hx hb dX8_halts_22 (by decide) ?_
    exact m_iret (v := (-9)) hx hb hr hK hP hS ⟨rfl, by rw [if_pos c_1]⟩ dX8_halts_24 hlocks
  · skip
    refine lv_aload_n hx hb dX8_halts_7 rfl (lv_at hl 0 rfl) ?_
    refine lv_iconst (v := 0) hx hb dX8_halts_8 (by decide) ?_
    refine m_put (ty := .boolean) (x := 0) hx hb htu wu_in hown hK hP hDD hS 67 (by decide) (htu _ U_221) rfl rfl (by decide +kernel) rfl rfl (mO_s67 _ _ _) dX8_halts_9 (fun H locs hP hS => ?_)
    refine lv_aload_n hx hb dX8_halts_12 rfl (lv_at hl 0 rfl) ?_
    refine lv_iload_n hx hb dX8_halts_13 rfl (lv_at hl 1 rfl) ?_
    refine m_put (ty := .int) (x := x) hx hb htu wu_in hown hK hP hDD hS 61 (by decide) (htu _ U_222) rfl rfl (by decide +kernel) rfl rfl (mO_s61 _ _ _) dX8_halts_14 (fun H locs hP hS => ?_)
    refine lv_aload_n hx hb dX8_halts_17 rfl (lv_at hl 0 rfl) ?_
    refine lv_iload_n hx hb dX8_halts_18 rfl (lv_at hl 2 rfl) ?_
    refine m_put (ty := .int) (x := y) hx hb htu wu_in hown hK hP hDD hS 65 (by decide) (htu _ U_223) rfl rfl (by decide +kernel) rfl rfl (mO_s65 _ _ _) dX8_halts_19 (fun H locs hP hS => ?_)
    refine lv_bipush (v := (-9)) hx hb dX8_halts_22 (by decide) ?_
    exact m_iret (v := (-9)) hx hb hr hK hP hS ⟨rfl, by rw [if_neg c_1]⟩ dX8_halts_24 hlocks

