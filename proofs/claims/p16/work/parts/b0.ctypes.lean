theorem dX4_sortOf_0 : decode cX4_sortOf 0 = .ok (.aload_n 0, 1) := by decide +kernel
theorem dX4_sortOf_1 : decode cX4_sortOf 1 = .ok (.getfield 12, 3) := by decide +kernel
theorem dX4_sortOf_4 : decode cX4_sortOf 4 = .ok (.iload_n 1, 1) := by decide +kernel
theorem dX4_sortOf_5 : decode cX4_sortOf 5 = .ok (.invokevirtual 89, 3) := by decide +kernel
theorem dX4_sortOf_8 : decode cX4_sortOf 8 = .ok (.ireturn, 1) := by decide +kernel
theorem dX4_levelOf_0 : decode cX4_levelOf 0 = .ok (.aload_n 0, 1) := by decide +kernel
theorem dX4_levelOf_1 : decode cX4_levelOf 1 = .ok (.getfield 18, 3) := by decide +kernel
theorem dX4_levelOf_4 : decode cX4_levelOf 4 = .ok (.iload_n 1, 1) := by decide +kernel
theorem dX4_levelOf_5 : decode cX4_levelOf 5 = .ok (.invokevirtual 89, 3) := by decide +kernel
theorem dX4_levelOf_8 : decode cX4_levelOf 8 = .ok (.ireturn, 1) := by decide +kernel
theorem dX4_firstOf_0 : decode cX4_firstOf 0 = .ok (.aload_n 0, 1) := by decide +kernel
theorem dX4_firstOf_1 : decode cX4_firstOf 1 = .ok (.getfield 21, 3) := by decide +kernel
theorem dX4_firstOf_4 : decode cX4_firstOf 4 = .ok (.iload_n 1, 1) := by decide +kernel
theorem dX4_firstOf_5 : decode cX4_firstOf 5 = .ok (.invokevirtual 89, 3) := by decide +kernel
theorem dX4_firstOf_8 : decode cX4_firstOf 8 = .ok (.ireturn, 1) := by decide +kernel
theorem dX4_secondOf_0 : decode cX4_secondOf 0 = .ok (.aload_n 0, 1) := by decide +kernel
theorem dX4_secondOf_1 : decode cX4_secondOf 1 = .ok (.getfield 24, 3) := by decide +kernel
theorem dX4_secondOf_4 : decode cX4_secondOf 4 = .ok (.iload_n 1, 1) := by decide +kernel
theorem dX4_secondOf_5 : decode cX4_secondOf 5 = .ok (.invokevirtual 89, 3) := by decide +kernel
theorem dX4_secondOf_8 : decode cX4_secondOf 8 = .ok (.ireturn, 1) := by decide +kernel
theorem dX4_ofVariable_0 : decode cX4_ofVariable 0 = .ok (.aload_n 0, 1) := by decide +kernel
theorem dX4_ofVariable_1 : decode cX4_ofVariable 1 = .ok (.getfield 39, 3) := by decide +kernel
theorem dX4_ofVariable_4 : decode cX4_ofVariable 4 = .ok (.iload_n 1, 1) := by decide +kernel
theorem dX4_ofVariable_5 : decode cX4_ofVariable 5 = .ok (.invokevirtual 89, 3) := by decide +kernel
theorem dX4_ofVariable_8 : decode cX4_ofVariable 8 = .ok (.ireturn, 1) := by decide +kernel
theorem dX4_variableCount_0 : decode cX4_variableCount 0 = .ok (.aload_n 0, 1) := by decide +kernel
theorem dX4_variableCount_1 : decode cX4_variableCount 1 = .ok (.getfield 39, 3) := by decide +kernel
theorem dX4_variableCount_4 : decode cX4_variableCount 4 = .ok (.getfield 69, 3) := by decide +kernel
theorem dX4_variableCount_7 : decode cX4_variableCount 7 = .ok (.ireturn, 1) := by decide +kernel
theorem dX4_stagedCount_0 : decode cX4_stagedCount 0 = .ok (.aload_n 0, 1) := by decide +kernel
theorem dX4_stagedCount_1 : decode cX4_stagedCount 1 = .ok (.getfield 36, 3) := by decide +kernel
theorem dX4_stagedCount_4 : decode cX4_stagedCount 4 = .ok (.getfield 69, 3) := by decide +kernel
theorem dX4_stagedCount_7 : decode cX4_stagedCount 7 = .ok (.ireturn, 1) := by decide +kernel
theorem dX4_numberOf_0 : decode cX4_numberOf 0 = .ok (.aload_n 0, 1) := by decide +kernel
theorem dX4_numberOf_1 : decode cX4_numberOf 1 = .ok (.getfield 12, 3) := by decide +kernel
theorem dX4_numberOf_4 : decode cX4_numberOf 4 = .ok (.iload_n 1, 1) := by decide +kernel
theorem dX4_numberOf_5 : decode cX4_numberOf 5 = .ok (.invokevirtual 89, 3) := by decide +kernel
theorem dX4_numberOf_8 : decode cX4_numberOf 8 = .ok (.iconst 4, 1) := by decide +kernel
theorem dX4_numberOf_9 : decode cX4_numberOf 9 = .ok (.if_icmp .ne 14, 3) := by decide +kernel
theorem dX4_numberOf_23 : decode cX4_numberOf 23 = .ok (.bipush (-9), 2) := by decide +kernel
theorem dX4_numberOf_25 : decode cX4_numberOf 25 = .ok (.ireturn, 1) := by decide +kernel
theorem dX4_numberOf_12 : decode cX4_numberOf 12 = .ok (.aload_n 0, 1) := by decide +kernel
theorem dX4_numberOf_13 : decode cX4_numberOf 13 = .ok (.getfield 21, 3) := by decide +kernel
theorem dX4_numberOf_16 : decode cX4_numberOf 16 = .ok (.iload_n 1, 1) := by decide +kernel
theorem dX4_numberOf_17 : decode cX4_numberOf 17 = .ok (.invokevirtual 89, 3) := by decide +kernel
theorem dX4_numberOf_20 : decode cX4_numberOf 20 = .ok (.goto 5, 3) := by decide +kernel
theorem dX4_labelAt_0 : decode cX4_labelAt 0 = .ok (.aload_n 0, 1) := by decide +kernel
theorem dX4_labelAt_1 : decode cX4_labelAt 1 = .ok (.getfield 27, 3) := by decide +kernel
theorem dX4_labelAt_4 : decode cX4_labelAt 4 = .ok (.aload_n 0, 1) := by decide +kernel
theorem dX4_labelAt_5 : decode cX4_labelAt 5 = .ok (.getfield 21, 3) := by decide +kernel
theorem dX4_labelAt_8 : decode cX4_labelAt 8 = .ok (.iload_n 1, 1) := by decide +kernel
theorem dX4_labelAt_9 : decode cX4_labelAt 9 = .ok (.invokevirtual 89, 3) := by decide +kernel
theorem dX4_labelAt_12 : decode cX4_labelAt 12 = .ok (.iload_n 2, 1) := by decide +kernel
theorem dX4_labelAt_13 : decode cX4_labelAt 13 = .ok (.iadd, 1) := by decide +kernel
theorem dX4_labelAt_14 : decode cX4_labelAt 14 = .ok (.invokevirtual 89, 3) := by decide +kernel
theorem dX4_labelAt_17 : decode cX4_labelAt 17 = .ok (.ireturn, 1) := by decide +kernel
theorem dX4_partAt_0 : decode cX4_partAt 0 = .ok (.aload_n 0, 1) := by decide +kernel
theorem dX4_partAt_1 : decode cX4_partAt 1 = .ok (.getfield 30, 3) := by decide +kernel
theorem dX4_partAt_4 : decode cX4_partAt 4 = .ok (.aload_n 0, 1) := by decide +kernel
theorem dX4_partAt_5 : decode cX4_partAt 5 = .ok (.getfield 21, 3) := by decide +kernel
theorem dX4_partAt_8 : decode cX4_partAt 8 = .ok (.iload_n 1, 1) := by decide +kernel
theorem dX4_partAt_9 : decode cX4_partAt 9 = .ok (.invokevirtual 89, 3) := by decide +kernel
theorem dX4_partAt_12 : decode cX4_partAt 12 = .ok (.iload_n 2, 1) := by decide +kernel
theorem dX4_partAt_13 : decode cX4_partAt 13 = .ok (.iadd, 1) := by decide +kernel
theorem dX4_partAt_14 : decode cX4_partAt 14 = .ok (.invokevirtual 89, 3) := by decide +kernel
theorem dX4_partAt_17 : decode cX4_partAt 17 = .ok (.ireturn, 1) := by decide +kernel
theorem dX4_fieldCount_0 : decode cX4_fieldCount 0 = .ok (.aload_n 0, 1) := by decide +kernel
theorem dX4_fieldCount_1 : decode cX4_fieldCount 1 = .ok (.getfield 12, 3) := by decide +kernel
theorem dX4_fieldCount_4 : decode cX4_fieldCount 4 = .ok (.iload_n 1, 1) := by decide +kernel
theorem dX4_fieldCount_5 : decode cX4_fieldCount 5 = .ok (.invokevirtual 89, 3) := by decide +kernel
theorem dX4_fieldCount_8 : decode cX4_fieldCount 8 = .ok (.iconst 3, 1) := by decide +kernel
theorem dX4_fieldCount_9 : decode cX4_fieldCount 9 = .ok (.if_icmp .ne 14, 3) := by decide +kernel
theorem dX4_fieldCount_23 : decode cX4_fieldCount 23 = .ok (.iconst 0, 1) := by decide +kernel
theorem dX4_fieldCount_24 : decode cX4_fieldCount 24 = .ok (.ireturn, 1) := by decide +kernel
theorem dX4_fieldCount_12 : decode cX4_fieldCount 12 = .ok (.aload_n 0, 1) := by decide +kernel
theorem dX4_fieldCount_13 : decode cX4_fieldCount 13 = .ok (.getfield 24, 3) := by decide +kernel
theorem dX4_fieldCount_16 : decode cX4_fieldCount 16 = .ok (.iload_n 1, 1) := by decide +kernel
theorem dX4_fieldCount_17 : decode cX4_fieldCount 17 = .ok (.invokevirtual 89, 3) := by decide +kernel
theorem dX4_fieldCount_20 : decode cX4_fieldCount 20 = .ok (.goto 4, 3) := by decide +kernel
theorem dX4_stage_0 : decode cX4_stage 0 = .ok (.aload_n 0, 1) := by decide +kernel
theorem dX4_stage_1 : decode cX4_stage 1 = .ok (.getfield 33, 3) := by decide +kernel
theorem dX4_stage_4 : decode cX4_stage 4 = .ok (.iload_n 1, 1) := by decide +kernel
theorem dX4_stage_5 : decode cX4_stage 5 = .ok (.invokevirtual 73, 3) := by decide +kernel
theorem dX4_stage_8 : decode cX4_stage 8 = .ok (.aload_n 0, 1) := by decide +kernel
theorem dX4_stage_9 : decode cX4_stage 9 = .ok (.getfield 36, 3) := by decide +kernel
theorem dX4_stage_12 : decode cX4_stage 12 = .ok (.iload_n 2, 1) := by decide +kernel
theorem dX4_stage_13 : decode cX4_stage 13 = .ok (.invokevirtual 73, 3) := by decide +kernel
theorem dX4_stage_16 : decode cX4_stage 16 = .ok (.return_, 1) := by decide +kernel
/-! ===== the class's TYPES, as far as safety needs: sizes; VARIABLES' numbers; RECORDS' widths ===== -/
def TY (S : cS) (T V VP X Y Z : Nat) : Prop := (kK S 6 = T ∧ kK S 7 = T ∧ kK S 8 = T ∧ kK S 9 = T ∧ kK S 16 = T ∧ kK S 14 = V ∧ kK S 10 = X ∧ kK S 11 = X ∧ kK S 12 = Y ∧ kK S 13 = Y ∧ kK S 17 = Z ∧ kK S 18 = Z) ∧ (T ≤ 602 ∧ V ≤ 150 ∧ 2 * V ≤ kB S ∧ X ≤ 6 * T) ∧ (∀ t, t < T → kF S 6 t = 4 → (∃ v, v < VP ∧ kF S 8 t = nI v) ∧ 0 ≤ kF S 7 t) ∧ (∀ t, t < T → kF S 6 t = 3 → kF S 9 t ≤ 6) ∧ (∀ t, t < T → kF S 6 t = 2 ∨ kF S 6 t = 3 ∨ kF S 6 t = 4 ∨ kF S 7 t ≤ 0)
/-- the TYPES that there were are as they were -/
def OC (S u : cS) (T : Nat) : Prop := ∀ t, t < T → kF u 6 t = kF S 6 t ∧ kF u 8 t = kF S 8 t
theorem OC.rf {S : cS} {T : Nat} : OC S S T := fun _ _ => ⟨rfl, rfl⟩
theorem OC.tr {S u w : cS} {T T' : Nat} (h : OC S u T) (h' : OC u w T') (hT : T ≤ T') : OC S w T := fun t ht => ⟨(h' t (Nat.lt_of_lt_of_le ht hT)).1.trans (h t ht).1, (h' t (Nat.lt_of_lt_of_le ht hT)).2.trans (h t ht).2⟩
theorem OC.aw {rs is : List Nat} {S u : cS} {T : Nat} (a : AW rs is S u) (h : 6 ∉ rs ∧ 8 ∉ rs) : OC S u T := fun _ _ => ⟨by rw [(a.2.1 6 (lt35 (by decide)) h.1).1], by rw [(a.2.1 8 (lt35 (by decide)) h.2).1]⟩
theorem TY.aw {rs is : List Nat} {S u : cS} {T V VP X Y Z : Nat} (h : TY S T V VP X Y Z) (a : AW rs is S u) (hr : ∀ r ∈ [6, 7, 8, 9, 10, 11, 12, 13, 14, 16, 17, 18], r ∉ rs) : TY u T V VP X Y Z := by
  obtain ⟨⟨a1, a2, a3, a4, a5, a6, a7, a8, a9, a10, a11, a12⟩, ⟨b1, b2, b3, b4⟩, c, d, d2⟩ := h
  have k : ∀ r, r < 35 → r ∈ [6, 7, 8, 9, 10, 11, 12, 13, 14, 16, 17, 18] → kF u r = kF S r ∧ kK u r = kK S r := fun r h1 h2 => a.2.1 r (by omega) (by rw [Nat.min_eq_left (by omega)]; exact hr r h2)
  refine ⟨⟨(k 6 (by decide) (by decide)).2.trans a1, (k 7 (by decide) (by decide)).2.trans a2, (k 8 (by decide) (by decide)).2.trans a3, (k 9 (by decide) (by decide)).2.trans a4, (k 16 (by decide) (by decide)).2.trans a5, (k 14 (by decide) (by decide)).2.trans a6, (k 10 (by decide) (by decide)).2.trans a7, (k 11 (by decide) (by decide)).2.trans a8, (k 12 (by decide) (by decide)).2.trans a9, (k 13 (by decide) (by decide)).2.trans a10, (k 17 (by decide) (by decide)).2.trans a11, (k 18 (by decide) (by decide)).2.trans a12⟩, ⟨b1, b2, Nat.le_trans b3 a.2.2.2.1, b4⟩, ?_, ?_, ?_⟩
  · rw [(k 6 (by decide) (by decide)).1, (k 8 (by decide) (by decide)).1, (k 7 (by decide) (by decide)).1]
    exact c
  · rw [(k 6 (by decide) (by decide)).1, (k 9 (by decide) (by decide)).1]
    exact d
  · rw [(k 6 (by decide) (by decide)).1, (k 7 (by decide) (by decide)).1]
    exact d2
theorem ad_F {S u : cS} {r n q : Nat} {g : Nat → Int32} {x : Int32} (hu : u = uR S r (kK S r + 1) n q g) (h1 : ∀ j, j < kK S r → g j = kF S r j) (h2 : g (kK S r) = x) : (∀ j, j < kK S r → kF u r j = kF S r j) ∧ kF u r (kK S r) = x := by
  have e : kF u r = g := by rw [hu]; exact uR_F
  rw [e]
  exact ⟨h1, h2⟩
theorem rget_in {f : Nat → Int32} {k : Nat} {i v : Int32} (h : rget f k i = v) (hv : v ≠ -9) (hk : k < 2 ^ 31) : ∃ j, j < k ∧ i = nI j ∧ f j = v := by
  unfold rget at h
  by_cases h0 : i < 0
  · rw [if_pos h0] at h
    exact absurd h.symm hv
  · rw [if_neg h0] at h
    by_cases h1 : nI k ≤ i
    · rw [if_pos h1] at h
      exact absurd h.symm hv
    · rw [if_neg h1] at h
      obtain ⟨j, hj, e⟩ := vp_in_of (rin h0 h1 (Nat.le_refl k) hk) hk
      rw [e, nI_clamp (by omega)] at h
      exact ⟨j, hj, e, h⟩

set_option maxHeartbeats 4000000 in
set_option maxRecDepth 100000 in
/-- sortOf -/
theorem y_sortOf (l : Launch) (G : cG) (S : cS) (t : Int32) (hC : CL S) (Hs : Heap) : Met l yX4_sortOf (wC yX4_sortOf cX4_sortOf 2 (some .int)) (cRm S 1 21) (cPc G S Hs [.ref (ga G 2), .int t]) (cQi G S Hs (fun v u => AW [] [] S u ∧ (u = S ∧ v = rget (kF S 6) (kK S 6) t))) (CC - PT S) (12 * (CC - PT S)) (cA G S Hs.size) := by
  refine Met.ofW (cc := cX4_sortOf) (maxL := 2) (ret := (some .int)) (by decide) rfl ?_
  intro p e s m args below meth c s₁ B hml hv
  obtain ⟨rfl, hsz, hP, hK, hD0, -⟩ := hv
  have hx := B.exec
  have hb := B.bytes
  have hr := B.returns
  have htu : ∀ w ∈ CU, w.before _ s = true := fun w h => atoms_spec (ws := (wC yX4_sortOf cX4_sortOf 2 (some .int))) B.pre w (List.mem_cons_of_mem _ h)
  have hown : s.vm.findClass RX4 = some m.cls := findClass_of_methodNamed B.named
  have hlocks := B.notSynchronized
  subst hsz
  have hD : cD (cA G S s.heap.size) G S := cD_self hD0
  have hl := lv_entry ([.ref (ga G 2), .int t]) (n := 2) (Nat.le_of_ble_eq_true rfl)
  rw [lg_entry_eq]
  generalize (lg_sl ([.ref (ga G 2), .int t]) ++ List.replicate (2 - (lg_sl ([.ref (ga G 2), .int t])).length) Slot.unset).toArray = ls at hl ⊢
  have hl : lv_has ls 2 [(0, .ref (ga G 2)), (1, .int t)] := hl
  obtain ⟨H, hHe⟩ : ∃ H : Heap, H = s.heap := ⟨_, rfl⟩
  rw [← hHe] at hP
  have hS : va_S (cA G S s.heap.size) s.heap H [] := by rw [hHe]; exact va_S.rf
  have hh : HS S S := HS.rf
  have hpp : PT S ≤ PT S := Nat.le_refl _
  have hB9 := hC.1
  refine W.heq hHe ?_
  refine c_ent (S := S) ?_
  refine lv_aload_n hx hb dX4_sortOf_0 rfl (lv_at hl 0 rfl) ?_
  refine va_get (D := gD G) (ci := 4) (v := .ref (kH S 6)) (C := RX4) (T := TX4) (N := 14) hx hb htu cu_in4 hown hK hP 2 cw_2 rfl 0 (by decide) (htu _ C_66) (fun _ h9 => h9) rfl dX4_sortOf_1 ?_
  refine lv_iload_n hx hb dX4_sortOf_4 rfl (lv_at hl 1 rfl) ?_
  have hC0 := hC
  refine c_ci (c_runV (As := [.int t]) (rest := []) (q0 := (2 * 6 + 13)) (ci := 0) ⟨hx, hb, hml, hown, htu⟩ (c_getA l G S 6 (lt35 (by decide)) hC (kH S 6) rfl t H) (cwV 1 htu hU_X4_89 rfl rfl rfl (by decide +kernel) ⟨Nat.le_of_ble_eq_true rfl, Nat.le_of_ble_eq_true rfl⟩) hP hK hD hC hpp (c_hd rfl (cw_row (lt35 (by decide)))) rfl rfl hl.1 rfl (lv_room (Nat.le_of_ble_eq_true rfl)) dX4_sortOf_5) hS hD hh hpp (fun r_1 S_2 H locs hw_3 hP hD hS hC hh hs_4 hpp => ?_)
  obtain ⟨hu9, hw_3⟩ := hw_3
  have hu9 := hu9.symm
  subst hu9
  exact c_iret (v := r_1) hx hb hr hK hP hD hS hC hh hpp ⟨AW.rf, ⟨rfl, hw_3⟩⟩ dX4_sortOf_8 hlocks

set_option maxHeartbeats 4000000 in
set_option maxRecDepth 100000 in
/-- levelOf -/
theorem y_levelOf (l : Launch) (G : cG) (S : cS) (t : Int32) (hC : CL S) (Hs : Heap) : Met l yX4_levelOf (wC yX4_levelOf cX4_levelOf 2 (some .int)) (cRm S 1 21) (cPc G S Hs [.ref (ga G 2), .int t]) (cQi G S Hs (fun v u => AW [] [] S u ∧ (u = S ∧ v = rget (kF S 7) (kK S 7) t))) (CC - PT S) (12 * (CC - PT S)) (cA G S Hs.size) := by
  refine Met.ofW (cc := cX4_levelOf) (maxL := 2) (ret := (some .int)) (by decide) rfl ?_
  intro p e s m args below meth c s₁ B hml hv
  obtain ⟨rfl, hsz, hP, hK, hD0, -⟩ := hv
  have hx := B.exec
  have hb := B.bytes
  have hr := B.returns
  have htu : ∀ w ∈ CU, w.before _ s = true := fun w h => atoms_spec (ws := (wC yX4_levelOf cX4_levelOf 2 (some .int))) B.pre w (List.mem_cons_of_mem _ h)
  have hown : s.vm.findClass RX4 = some m.cls := findClass_of_methodNamed B.named
  have hlocks := B.notSynchronized
  subst hsz
  have hD : cD (cA G S s.heap.size) G S := cD_self hD0
  have hl := lv_entry ([.ref (ga G 2), .int t]) (n := 2) (Nat.le_of_ble_eq_true rfl)
  rw [lg_entry_eq]
  generalize (lg_sl ([.ref (ga G 2), .int t]) ++ List.replicate (2 - (lg_sl ([.ref (ga G 2), .int t])).length) Slot.unset).toArray = ls at hl ⊢
  have hl : lv_has ls 2 [(0, .ref (ga G 2)), (1, .int t)] := hl
  obtain ⟨H, hHe⟩ : ∃ H : Heap, H = s.heap := ⟨_, rfl⟩
  rw [← hHe] at hP
  have hS : va_S (cA G S s.heap.size) s.heap H [] := by rw [hHe]; exact va_S.rf
  have hh : HS S S := HS.rf
  have hpp : PT S ≤ PT S := Nat.le_refl _
  have hB9 := hC.1
  refine W.heq hHe ?_
  refine c_ent (S := S) ?_
  refine lv_aload_n hx hb dX4_levelOf_0 rfl (lv_at hl 0 rfl) ?_
  refine va_get (D := gD G) (ci := 4) (v := .ref (kH S 7)) (C := RX4) (T := TX4) (N := 14) hx hb htu cu_in4 hown hK hP 2 cw_2 rfl 1 (by decide) (htu _ C_67) (fun _ h9 => h9) rfl dX4_levelOf_1 ?_
  refine lv_iload_n hx hb dX4_levelOf_4 rfl (lv_at hl 1 rfl) ?_
  have hC0 := hC
  refine c_ci (c_runV (As := [.int t]) (rest := []) (q0 := (2 * 7 + 13)) (ci := 0) ⟨hx, hb, hml, hown, htu⟩ (c_getA l G S 7 (lt35 (by decide)) hC (kH S 7) rfl t H) (cwV 1 htu hU_X4_89 rfl rfl rfl (by decide +kernel) ⟨Nat.le_of_ble_eq_true rfl, Nat.le_of_ble_eq_true rfl⟩) hP hK hD hC hpp (c_hd rfl (cw_row (lt35 (by decide)))) rfl rfl hl.1 rfl (lv_room (Nat.le_of_ble_eq_true rfl)) dX4_levelOf_5) hS hD hh hpp (fun r_1 S_2 H locs hw_3 hP hD hS hC hh hs_4 hpp => ?_)
  obtain ⟨hu9, hw_3⟩ := hw_3
  have hu9 := hu9.symm
  subst hu9
  exact c_iret (v := r_1) hx hb hr hK hP hD hS hC hh hpp ⟨AW.rf, ⟨rfl, hw_3⟩⟩ dX4_levelOf_8 hlocks

set_option maxHeartbeats 4000000 in
set_option maxRecDepth 100000 in
/-- firstOf -/
theorem y_firstOf (l : Launch) (G : cG) (S : cS) (t : Int32) (hC : CL S) (Hs : Heap) : Met l yX4_firstOf (wC yX4_firstOf cX4_firstOf 2 (some .int)) (cRm S 1 21) (cPc G S Hs [.ref (ga G 2), .int t]) (cQi G S Hs (fun v u => AW [] [] S u ∧ (u = S ∧ v = rget (kF S 8) (kK S 8) t))) (CC - PT S) (12 * (CC - PT S)) (cA G S Hs.size) := by
  refine Met.ofW (cc := cX4_firstOf) (maxL := 2) (ret := (some .int)) (by decide) rfl ?_
  intro p e s m args below meth c s₁ B hml hv
  obtain ⟨rfl, hsz, hP, hK, hD0, -⟩ := hv
  have hx := B.exec
  have hb := B.bytes
  have hr := B.returns
  have htu : ∀ w ∈ CU, w.before _ s = true := fun w h => atoms_spec (ws := (wC yX4_firstOf cX4_firstOf 2 (some .int))) B.pre w (List.mem_cons_of_mem _ h)
  have hown : s.vm.findClass RX4 = some m.cls := findClass_of_methodNamed B.named
  have hlocks := B.notSynchronized
  subst hsz
  have hD : cD (cA G S s.heap.size) G S := cD_self hD0
  have hl := lv_entry ([.ref (ga G 2), .int t]) (n := 2) (Nat.le_of_ble_eq_true rfl)
  rw [lg_entry_eq]
  generalize (lg_sl ([.ref (ga G 2), .int t]) ++ List.replicate (2 - (lg_sl ([.ref (ga G 2), .int t])).length) Slot.unset).toArray = ls at hl ⊢
  have hl : lv_has ls 2 [(0, .ref (ga G 2)), (1, .int t)] := hl
  obtain ⟨H, hHe⟩ : ∃ H : Heap, H = s.heap := ⟨_, rfl⟩
  rw [← hHe] at hP
  have hS : va_S (cA G S s.heap.size) s.heap H [] := by rw [hHe]; exact va_S.rf
  have hh : HS S S := HS.rf
  have hpp : PT S ≤ PT S := Nat.le_refl _
  have hB9 := hC.1
  refine W.heq hHe ?_
  refine c_ent (S := S) ?_
  refine lv_aload_n hx hb dX4_firstOf_0 rfl (lv_at hl 0 rfl) ?_
  refine va_get (D := gD G) (ci := 4) (v := .ref (kH S 8)) (C := RX4) (T := TX4) (N := 14) hx hb htu cu_in4 hown hK hP 2 cw_2 rfl 2 (by decide) (htu _ C_68) (fun _ h9 => h9) rfl dX4_firstOf_1 ?_
  refine lv_iload_n hx hb dX4_firstOf_4 rfl (lv_at hl 1 rfl) ?_
  have hC0 := hC
  refine c_ci (c_runV (As := [.int t]) (rest := []) (q0 := (2 * 8 + 13)) (ci := 0) ⟨hx, hb, hml, hown, htu⟩ (c_getA l G S 8 (lt35 (by decide)) hC (kH S 8) rfl t H) (cwV 1 htu hU_X4_89 rfl rfl rfl (by decide +kernel) ⟨Nat.le_of_ble_eq_true rfl, Nat.le_of_ble_eq_true rfl⟩) hP hK hD hC hpp (c_hd rfl (cw_row (lt35 (by decide)))) rfl rfl hl.1 rfl (lv_room (Nat.le_of_ble_eq_true rfl)) dX4_firstOf_5) hS hD hh hpp (fun r_1 S_2 H locs hw_3 hP hD hS hC hh hs_4 hpp => ?_)
  obtain ⟨hu9, hw_3⟩ := hw_3
  have hu9 := hu9.symm
  subst hu9
  exact c_iret (v := r_1) hx hb hr hK hP hD hS hC hh hpp ⟨AW.rf, ⟨rfl, hw_3⟩⟩ dX4_firstOf_8 hlocks

set_option maxHeartbeats 4000000 in
set_option maxRecDepth 100000 in
/-- secondOf -/
theorem y_secondOf (l : Launch) (G : cG) (S : cS) (t : Int32) (hC : CL S) (Hs : Heap) : Met l yX4_secondOf (wC yX4_secondOf cX4_secondOf 2 (some .int)) (cRm S 1 21) (cPc G S Hs [.ref (ga G 2), .int t]) (cQi G S Hs (fun v u => AW [] [] S u ∧ (u = S ∧ v = rget (kF S 9) (kK S 9) t))) (CC - PT S) (12 * (CC - PT S)) (cA G S Hs.size) := by
  refine Met.ofW (cc := cX4_secondOf) (maxL := 2) (ret := (some .int)) (by decide) rfl ?_
  intro p e s m args below meth c s₁ B hml hv
  obtain ⟨rfl, hsz, hP, hK, hD0, -⟩ := hv
  have hx := B.exec
  have hb := B.bytes
  have hr := B.returns
  have htu : ∀ w ∈ CU, w.before _ s = true := fun w h => atoms_spec (ws := (wC yX4_secondOf cX4_secondOf 2 (some .int))) B.pre w (List.mem_cons_of_mem _ h)
  have hown : s.vm.findClass RX4 = some m.cls := findClass_of_methodNamed B.named
  have hlocks := B.notSynchronized
  subst hsz
  have hD : cD (cA G S s.heap.size) G S := cD_self hD0
  have hl := lv_entry ([.ref (ga G 2), .int t]) (n := 2) (Nat.le_of_ble_eq_true rfl)
  rw [lg_entry_eq]
  generalize (lg_sl ([.ref (ga G 2), .int t]) ++ List.replicate (2 - (lg_sl ([.ref (ga G 2), .int t])).length) Slot.unset).toArray = ls at hl ⊢
  have hl : lv_has ls 2 [(0, .ref (ga G 2)), (1, .int t)] := hl
  obtain ⟨H, hHe⟩ : ∃ H : Heap, H = s.heap := ⟨_, rfl⟩
  rw [← hHe] at hP
  have hS : va_S (cA G S s.heap.size) s.heap H [] := by rw [hHe]; exact va_S.rf
  have hh : HS S S := HS.rf
  have hpp : PT S ≤ PT S := Nat.le_refl _
  have hB9 := hC.1
  refine W.heq hHe ?_
  refine c_ent (S := S) ?_
  refine lv_aload_n hx hb dX4_secondOf_0 rfl (lv_at hl 0 rfl) ?_
  refine va_get (D := gD G) (ci := 4) (v := .ref (kH S 9)) (C := RX4) (T := TX4) (N := 14) hx hb htu cu_in4 hown hK hP 2 cw_2 rfl 3 (by decide) (htu _ C_69) (fun _ h9 => h9) rfl dX4_secondOf_1 ?_
  refine lv_iload_n hx hb dX4_secondOf_4 rfl (lv_at hl 1 rfl) ?_
  have hC0 := hC
  refine c_ci (c_runV (As := [.int t]) (rest := []) (q0 := (2 * 9 + 13)) (ci := 0) ⟨hx, hb, hml, hown, htu⟩ (c_getA l G S 9 (lt35 (by decide)) hC (kH S 9) rfl t H) (cwV 1 htu hU_X4_89 rfl rfl rfl (by decide +kernel) ⟨Nat.le_of_ble_eq_true rfl, Nat.le_of_ble_eq_true rfl⟩) hP hK hD hC hpp (c_hd rfl (cw_row (lt35 (by decide)))) rfl rfl hl.1 rfl (lv_room (Nat.le_of_ble_eq_true rfl)) dX4_secondOf_5) hS hD hh hpp (fun r_1 S_2 H locs hw_3 hP hD hS hC hh hs_4 hpp => ?_)
  obtain ⟨hu9, hw_3⟩ := hw_3
  have hu9 := hu9.symm
  subst hu9
  exact c_iret (v := r_1) hx hb hr hK hP hD hS hC hh hpp ⟨AW.rf, ⟨rfl, hw_3⟩⟩ dX4_secondOf_8 hlocks

set_option maxHeartbeats 4000000 in
set_option maxRecDepth 100000 in
/-- ofVariable -/
theorem y_ofVariable (l : Launch) (G : cG) (S : cS) (t : Int32) (hC : CL S) (Hs : Heap) : Met l yX4_ofVariable (wC yX4_ofVariable cX4_ofVariable 2 (some .int)) (cRm S 1 21) (cPc G S Hs [.ref (ga G 2), .int t]) (cQi G S Hs (fun v u => AW [] [] S u ∧ (u = S ∧ v = rget (kF S 14) (kK S 14) t))) (CC - PT S) (12 * (CC - PT S)) (cA G S Hs.size) := by
  refine Met.ofW (cc := cX4_ofVariable) (maxL := 2) (ret := (some .int)) (by decide) rfl ?_
  intro p e s m args below meth c s₁ B hml hv
  obtain ⟨rfl, hsz, hP, hK, hD0, -⟩ := hv
  have hx := B.exec
  have hb := B.bytes
  have hr := B.returns
  have htu : ∀ w ∈ CU, w.before _ s = true := fun w h => atoms_spec (ws := (wC yX4_ofVariable cX4_ofVariable 2 (some .int))) B.pre w (List.mem_cons_of_mem _ h)
  have hown : s.vm.findClass RX4 = some m.cls := findClass_of_methodNamed B.named
  have hlocks := B.notSynchronized
  subst hsz
  have hD : cD (cA G S s.heap.size) G S := cD_self hD0
  have hl := lv_entry ([.ref (ga G 2), .int t]) (n := 2) (Nat.le_of_ble_eq_true rfl)
  rw [lg_entry_eq]
  generalize (lg_sl ([.ref (ga G 2), .int t]) ++ List.replicate (2 - (lg_sl ([.ref (ga G 2), .int t])).length) Slot.unset).toArray = ls at hl ⊢
  have hl : lv_has ls 2 [(0, .ref (ga G 2)), (1, .int t)] := hl
  obtain ⟨H, hHe⟩ : ∃ H : Heap, H = s.heap := ⟨_, rfl⟩
  rw [← hHe] at hP
  have hS : va_S (cA G S s.heap.size) s.heap H [] := by rw [hHe]; exact va_S.rf
  have hh : HS S S := HS.rf
  have hpp : PT S ≤ PT S := Nat.le_refl _
  have hB9 := hC.1
  refine W.heq hHe ?_
  refine c_ent (S := S) ?_
  refine lv_aload_n hx hb dX4_ofVariable_0 rfl (lv_at hl 0 rfl) ?_
  refine va_get (D := gD G) (ci := 4) (v := .ref (kH S 14)) (C := RX4) (T := TX4) (N := 14) hx hb htu cu_in4 hown hK hP 2 cw_2 rfl 8 (by decide) (htu _ C_74) (fun _ h9 => h9) rfl dX4_ofVariable_1 ?_
  refine lv_iload_n hx hb dX4_ofVariable_4 rfl (lv_at hl 1 rfl) ?_
  have hC0 := hC
  refine c_ci (c_runV (As := [.int t]) (rest := []) (q0 := (2 * 14 + 13)) (ci := 0) ⟨hx, hb, hml, hown, htu⟩ (c_getA l G S 14 (lt35 (by decide)) hC (kH S 14) rfl t H) (cwV 1 htu hU_X4_89 rfl rfl rfl (by decide +kernel) ⟨Nat.le_of_ble_eq_true rfl, Nat.le_of_ble_eq_true rfl⟩) hP hK hD hC hpp (c_hd rfl (cw_row (lt35 (by decide)))) rfl rfl hl.1 rfl (lv_room (Nat.le_of_ble_eq_true rfl)) dX4_ofVariable_5) hS hD hh hpp (fun r_1 S_2 H locs hw_3 hP hD hS hC hh hs_4 hpp => ?_)
  obtain ⟨hu9, hw_3⟩ := hw_3
  have hu9 := hu9.symm
  subst hu9
  exact c_iret (v := r_1) hx hb hr hK hP hD hS hC hh hpp ⟨AW.rf, ⟨rfl, hw_3⟩⟩ dX4_ofVariable_8 hlocks

set_option maxHeartbeats 4000000 in
set_option maxRecDepth 100000 in
/-- variableCount -/
theorem y_variableCount (l : Launch) (G : cG) (S : cS) (hC : CL S) (Hs : Heap) : Met l yX4_variableCount (wC yX4_variableCount cX4_variableCount 1 (some .int)) (cRm S 0 0) (cPc G S Hs [.ref (ga G 2)]) (cQi G S Hs (fun v u => AW [] [] S u ∧ (u = S ∧ v = nI (kK S 14)))) (CC - PT S) (12 * (CC - PT S)) (cA G S Hs.size) := by
  refine Met.ofW (cc := cX4_variableCount) (maxL := 1) (ret := (some .int)) (by decide) rfl ?_
  intro p e s m args below meth c s₁ B hml hv
  obtain ⟨rfl, hsz, hP, hK, hD0, -⟩ := hv
  have hx := B.exec
  have hb := B.bytes
  have hr := B.returns
  have htu : ∀ w ∈ CU, w.before _ s = true := fun w h => atoms_spec (ws := (wC yX4_variableCount cX4_variableCount 1 (some .int))) B.pre w (List.mem_cons_of_mem _ h)
  have hown : s.vm.findClass RX4 = some m.cls := findClass_of_methodNamed B.named
  have hlocks := B.notSynchronized
  subst hsz
  have hD : cD (cA G S s.heap.size) G S := cD_self hD0
  have hl := lv_entry ([.ref (ga G 2)]) (n := 1) (Nat.le_of_ble_eq_true rfl)
  rw [lg_entry_eq]
  generalize (lg_sl ([.ref (ga G 2)]) ++ List.replicate (1 - (lg_sl ([.ref (ga G 2)])).length) Slot.unset).toArray = ls at hl ⊢
  have hl : lv_has ls 1 [(0, .ref (ga G 2))] := hl
  obtain ⟨H, hHe⟩ : ∃ H : Heap, H = s.heap := ⟨_, rfl⟩
  rw [← hHe] at hP
  have hS : va_S (cA G S s.heap.size) s.heap H [] := by rw [hHe]; exact va_S.rf
  have hh : HS S S := HS.rf
  have hpp : PT S ≤ PT S := Nat.le_refl _
  have hB9 := hC.1
  refine W.heq hHe ?_
  refine c_ent (S := S) ?_
  refine lv_aload_n hx hb dX4_variableCount_0 rfl (lv_at hl 0 rfl) ?_
  refine va_get (D := gD G) (ci := 4) (v := .ref (kH S 14)) (C := RX4) (T := TX4) (N := 14) hx hb htu cu_in4 hown hK hP 2 cw_2 rfl 8 (by decide) (htu _ C_74) (fun _ h9 => h9) rfl dX4_variableCount_1 ?_
  refine va_get (D := gD G) (ci := 0) (v := .int (nI (kK S 14))) (C := RX0) (T := TX0) (N := 2) hx hb htu cu_in0 hown hK hP (2 * 14 + 13) (c_hd rfl (cw_row (lt35 (by decide)))) rfl 1 (by decide) (htu _ C_94) (fun _ h9 => h9) rfl dX4_variableCount_4 ?_
  exact c_iret (v := nI (kK S 14)) hx hb hr hK hP hD hS hC hh hpp ⟨AW.rf, ⟨rfl, rfl⟩⟩ dX4_variableCount_7 hlocks

set_option maxHeartbeats 4000000 in
set_option maxRecDepth 100000 in
/-- stagedCount -/
theorem y_stagedCount (l : Launch) (G : cG) (S : cS) (hC : CL S) (Hs : Heap) : Met l yX4_stagedCount (wC yX4_stagedCount cX4_stagedCount 1 (some .int)) (cRm S 0 0) (cPc G S Hs [.ref (ga G 2)]) (cQi G S Hs (fun v u => AW [] [] S u ∧ (u = S ∧ v = nI (kK S 13)))) (CC - PT S) (12 * (CC - PT S)) (cA G S Hs.size) := by
  refine Met.ofW (cc := cX4_stagedCount) (maxL := 1) (ret := (some .int)) (by decide) rfl ?_
  intro p e s m args below meth c s₁ B hml hv
  obtain ⟨rfl, hsz, hP, hK, hD0, -⟩ := hv
  have hx := B.exec
  have hb := B.bytes
  have hr := B.returns
  have htu : ∀ w ∈ CU, w.before _ s = true := fun w h => atoms_spec (ws := (wC yX4_stagedCount cX4_stagedCount 1 (some .int))) B.pre w (List.mem_cons_of_mem _ h)
  have hown : s.vm.findClass RX4 = some m.cls := findClass_of_methodNamed B.named
  have hlocks := B.notSynchronized
  subst hsz
  have hD : cD (cA G S s.heap.size) G S := cD_self hD0
  have hl := lv_entry ([.ref (ga G 2)]) (n := 1) (Nat.le_of_ble_eq_true rfl)
  rw [lg_entry_eq]
  generalize (lg_sl ([.ref (ga G 2)]) ++ List.replicate (1 - (lg_sl ([.ref (ga G 2)])).length) Slot.unset).toArray = ls at hl ⊢
  have hl : lv_has ls 1 [(0, .ref (ga G 2))] := hl
  obtain ⟨H, hHe⟩ : ∃ H : Heap, H = s.heap := ⟨_, rfl⟩
  rw [← hHe] at hP
  have hS : va_S (cA G S s.heap.size) s.heap H [] := by rw [hHe]; exact va_S.rf
  have hh : HS S S := HS.rf
  have hpp : PT S ≤ PT S := Nat.le_refl _
  have hB9 := hC.1
  refine W.heq hHe ?_
  refine c_ent (S := S) ?_
  refine lv_aload_n hx hb dX4_stagedCount_0 rfl (lv_at hl 0 rfl) ?_
  refine va_get (D := gD G) (ci := 4) (v := .ref (kH S 13)) (C := RX4) (T := TX4) (N := 14) hx hb htu cu_in4 hown hK hP 2 cw_2 rfl 7 (by decide) (htu _ C_73) (fun _ h9 => h9) rfl dX4_stagedCount_1 ?_
  refine va_get (D := gD G) (ci := 0) (v := .int (nI (kK S 13))) (C := RX0) (T := TX0) (N := 2) hx hb htu cu_in0 hown hK hP (2 * 13 + 13) (c_hd rfl (cw_row (lt35 (by decide)))) rfl 1 (by decide) (htu _ C_94) (fun _ h9 => h9) rfl dX4_stagedCount_4 ?_
  exact c_iret (v := nI (kK S 13)) hx hb hr hK hP hD hS hC hh hpp ⟨AW.rf, ⟨rfl, rfl⟩⟩ dX4_stagedCount_7 hlocks

set_option maxHeartbeats 4000000 in
set_option maxRecDepth 100000 in
/-- numberOf -/
theorem y_numberOf (l : Launch) (G : cG) (S : cS) (t : Int32) (hC : CL S) (Hs : Heap) : Met l yX4_numberOf (wC yX4_numberOf cX4_numberOf 2 (some .int)) (cRm S 1 21) (cPc G S Hs [.ref (ga G 2), .int t]) (cQi G S Hs (fun v u => AW [] [] S u ∧ (u = S))) (CC - PT S) (12 * (CC - PT S)) (cA G S Hs.size) := by
  refine Met.ofW (cc := cX4_numberOf) (maxL := 2) (ret := (some .int)) (by decide) rfl ?_
  intro p e s m args below meth c s₁ B hml hv
  obtain ⟨rfl, hsz, hP, hK, hD0, -⟩ := hv
  have hx := B.exec
  have hb := B.bytes
  have hr := B.returns
  have htu : ∀ w ∈ CU, w.before _ s = true := fun w h => atoms_spec (ws := (wC yX4_numberOf cX4_numberOf 2 (some .int))) B.pre w (List.mem_cons_of_mem _ h)
  have hown : s.vm.findClass RX4 = some m.cls := findClass_of_methodNamed B.named
  have hlocks := B.notSynchronized
  subst hsz
  have hD : cD (cA G S s.heap.size) G S := cD_self hD0
  have hl := lv_entry ([.ref (ga G 2), .int t]) (n := 2) (Nat.le_of_ble_eq_true rfl)
  rw [lg_entry_eq]
  generalize (lg_sl ([.ref (ga G 2), .int t]) ++ List.replicate (2 - (lg_sl ([.ref (ga G 2), .int t])).length) Slot.unset).toArray = ls at hl ⊢
  have hl : lv_has ls 2 [(0, .ref (ga G 2)), (1, .int t)] := hl
  obtain ⟨H, hHe⟩ : ∃ H : Heap, H = s.heap := ⟨_, rfl⟩
  rw [← hHe] at hP
  have hS : va_S (cA G S s.heap.size) s.heap H [] := by rw [hHe]; exact va_S.rf
  have hh : HS S S := HS.rf
  have hpp : PT S ≤ PT S := Nat.le_refl _
  have hB9 := hC.1
  refine W.heq hHe ?_
  refine c_ent (S := S) ?_
  refine lv_aload_n hx hb dX4_numberOf_0 rfl (lv_at hl 0 rfl) ?_
  refine va_get (D := gD G) (ci := 4) (v := .ref (kH S 6)) (C := RX4) (T := TX4) (N := 14) hx hb htu cu_in4 hown hK hP 2 cw_2 rfl 0 (by decide) (htu _ C_66) (fun _ h9 => h9) rfl dX4_numberOf_1 ?_
  refine lv_iload_n hx hb dX4_numberOf_4 rfl (lv_at hl 1 rfl) ?_
  have hC0 := hC
  refine c_ci (c_runV (As := [.int t]) (rest := []) (q0 := (2 * 6 + 13)) (ci := 0) ⟨hx, hb, hml, hown, htu⟩ (c_getA l G S 6 (lt35 (by decide)) hC (kH S 6) rfl t H) (cwV 1 htu hU_X4_89 rfl rfl rfl (by decide +kernel) ⟨Nat.le_of_ble_eq_true rfl, Nat.le_of_ble_eq_true rfl⟩) hP hK hD hC hpp (c_hd rfl (cw_row (lt35 (by decide)))) rfl rfl hl.1 rfl (lv_room (Nat.le_of_ble_eq_true rfl)) dX4_numberOf_5) hS hD hh hpp (fun r_1 S_2 H locs hw_3 hP hD hS hC hh hs_4 hpp => ?_)
  obtain ⟨hu9, hw_3⟩ := hw_3
  have hu9 := hu9.symm
  subst hu9
  refine lv_iconst (v := 4) hx hb dX4_numberOf_8 (by decide) ?_
  refine lv_icmp_ne (tgt := 23) hx hb dX4_numberOf_9 (by decide) (fun c_5 => ?_) (fun c_5 => ?_)
  · skip
    refine lv_bipush (v := (-9)) hx hb dX4_numberOf_23 (by decide) ?_
    exact c_iret (v := (-9)) hx hb hr hK hP hD hS hC hh hpp ⟨AW.rf, rfl⟩ dX4_numberOf_25 hlocks
  · skip
    refine lv_aload_n hx hb dX4_numberOf_12 rfl (lv_at hl 0 rfl) ?_
    refine va_get (D := gD G) (ci := 4) (v := .ref (kH S 8)) (C := RX4) (T := TX4) (N := 14) hx hb htu cu_in4 hown hK hP 2 cw_2 rfl 2 (by decide) (htu _ C_68) (fun _ h9 => h9) rfl dX4_numberOf_13 ?_
    refine lv_iload_n hx hb dX4_numberOf_16 rfl (lv_at hl 1 rfl) ?_
    have hC0 := hC
    refine c_ci (c_runV (As := [.int t]) (rest := []) (q0 := (2 * 8 + 13)) (ci := 0) ⟨hx, hb, hml, hown, htu⟩ (c_getA l G S 8 (lt35 (by decide)) hC (kH S 8) rfl t H) (cwV 1 htu hU_X4_89 rfl rfl rfl (by decide +kernel) ⟨Nat.le_of_ble_eq_true rfl, Nat.le_of_ble_eq_true rfl⟩) hP hK hD hC hpp (c_hd rfl (cw_row (lt35 (by decide)))) rfl rfl hl.1 rfl (lv_room (Nat.le_of_ble_eq_true rfl)) dX4_numberOf_17) hS hD hh hpp (fun r_6 S_7 H locs hw_8 hP hD hS hC hh hs_9 hpp => ?_)
    obtain ⟨hu9, hw_8⟩ := hw_8
    have hu9 := hu9.symm
    subst hu9
    refine lv_goto (tgt := 25) hx hb dX4_numberOf_20 (by decide) ?_
    exact c_iret (v := r_6) hx hb hr hK hP hD hS hC hh hpp ⟨AW.rf, rfl⟩ dX4_numberOf_25 hlocks

set_option maxHeartbeats 4000000 in
set_option maxRecDepth 100000 in
/-- labelAt -/
theorem y_labelAt (l : Launch) (G : cG) (S : cS) (t : Int32) (i : Int32) (hC : CL S) (Hs : Heap) : Met l yX4_labelAt (wC yX4_labelAt cX4_labelAt 3 (some .int)) (cRm S 1 21) (cPc G S Hs [.ref (ga G 2), .int t, .int i]) (cQi G S Hs (fun v u => AW [] [] S u ∧ (u = S))) (CC - PT S) (12 * (CC - PT S)) (cA G S Hs.size) := by
  refine Met.ofW (cc := cX4_labelAt) (maxL := 3) (ret := (some .int)) (by decide) rfl ?_
  intro p e s m args below meth c s₁ B hml hv
  obtain ⟨rfl, hsz, hP, hK, hD0, -⟩ := hv
  have hx := B.exec
  have hb := B.bytes
  have hr := B.returns
  have htu : ∀ w ∈ CU, w.before _ s = true := fun w h => atoms_spec (ws := (wC yX4_labelAt cX4_labelAt 3 (some .int))) B.pre w (List.mem_cons_of_mem _ h)
  have hown : s.vm.findClass RX4 = some m.cls := findClass_of_methodNamed B.named
  have hlocks := B.notSynchronized
  subst hsz
  have hD : cD (cA G S s.heap.size) G S := cD_self hD0
  have hl := lv_entry ([.ref (ga G 2), .int t, .int i]) (n := 3) (Nat.le_of_ble_eq_true rfl)
  rw [lg_entry_eq]
  generalize (lg_sl ([.ref (ga G 2), .int t, .int i]) ++ List.replicate (3 - (lg_sl ([.ref (ga G 2), .int t, .int i])).length) Slot.unset).toArray = ls at hl ⊢
  have hl : lv_has ls 3 [(0, .ref (ga G 2)), (1, .int t), (2, .int i)] := hl
  obtain ⟨H, hHe⟩ : ∃ H : Heap, H = s.heap := ⟨_, rfl⟩
  rw [← hHe] at hP
  have hS : va_S (cA G S s.heap.size) s.heap H [] := by rw [hHe]; exact va_S.rf
  have hh : HS S S := HS.rf
  have hpp : PT S ≤ PT S := Nat.le_refl _
  have hB9 := hC.1
  refine W.heq hHe ?_
  refine c_ent (S := S) ?_
  refine lv_aload_n hx hb dX4_labelAt_0 rfl (lv_at hl 0 rfl) ?_
  refine va_get (D := gD G) (ci := 4) (v := .ref (kH S 10)) (C := RX4) (T := TX4) (N := 14) hx hb htu cu_in4 hown hK hP 2 cw_2 rfl 4 (by decide) (htu _ C_70) (fun _ h9 => h9) rfl dX4_labelAt_1 ?_
  refine lv_aload_n hx hb dX4_labelAt_4 rfl (lv_at hl 0 rfl) ?_
  refine va_get (D := gD G) (ci := 4) (v := .ref (kH S 8)) (C := RX4) (T := TX4) (N := 14) hx hb htu cu_in4 hown hK hP 2 cw_2 rfl 2 (by decide) (htu _ C_68) (fun _ h9 => h9) rfl dX4_labelAt_5 ?_
  refine lv_iload_n hx hb dX4_labelAt_8 rfl (lv_at hl 1 rfl) ?_
  have hC0 := hC
  refine c_ci (c_runV (As := [.int t]) (rest := [.ref (kH S 10)]) (q0 := (2 * 8 + 13)) (ci := 0) ⟨hx, hb, hml, hown, htu⟩ (c_getA l G S 8 (lt35 (by decide)) hC (kH S 8) rfl t H) (cwV 1 htu hU_X4_89 rfl rfl rfl (by decide +kernel) ⟨Nat.le_of_ble_eq_true rfl, Nat.le_of_ble_eq_true rfl⟩) hP hK hD hC hpp (c_hd rfl (cw_row (lt35 (by decide)))) rfl rfl hl.1 rfl (lv_room (Nat.le_of_ble_eq_true rfl)) dX4_labelAt_9) hS hD hh hpp (fun r_1 S_2 H locs hw_3 hP hD hS hC hh hs_4 hpp => ?_)
  obtain ⟨hu9, hw_3⟩ := hw_3
  have hu9 := hu9.symm
  subst hu9
  refine lv_iload_n hx hb dX4_labelAt_12 rfl (lv_at hl 2 rfl) ?_
  refine lv_iadd hx hb dX4_labelAt_13 ?_
  refine lv_topi (fun f_5 ef_5 => ?_)
  have hC0 := hC
  refine c_ci (c_runV (As := [.int f_5]) (rest := []) (q0 := (2 * 10 + 13)) (ci := 0) ⟨hx, hb, hml, hown, htu⟩ (c_getA l G S 10 (lt35 (by decide)) hC (kH S 10) rfl f_5 H) (cwV 1 htu hU_X4_89 rfl rfl rfl (by decide +kernel) ⟨Nat.le_of_ble_eq_true rfl, Nat.le_of_ble_eq_true rfl⟩) hP hK hD hC hpp (c_hd rfl (cw_row (lt35 (by decide)))) rfl rfl hl.1 rfl (lv_room (Nat.le_of_ble_eq_true rfl)) dX4_labelAt_14) hS hD hh hpp (fun r_6 S_7 H locs hw_8 hP hD hS hC hh hs_9 hpp => ?_)
  obtain ⟨hu9, hw_8⟩ := hw_8
  have hu9 := hu9.symm
  subst hu9
  exact c_iret (v := r_6) hx hb hr hK hP hD hS hC hh hpp ⟨AW.rf, rfl⟩ dX4_labelAt_17 hlocks

set_option maxHeartbeats 4000000 in
set_option maxRecDepth 100000 in
/-- partAt -/
theorem y_partAt (l : Launch) (G : cG) (S : cS) (t : Int32) (i : Int32) (hC : CL S) (Hs : Heap) : Met l yX4_partAt (wC yX4_partAt cX4_partAt 3 (some .int)) (cRm S 1 21) (cPc G S Hs [.ref (ga G 2), .int t, .int i]) (cQi G S Hs (fun v u => AW [] [] S u ∧ (u = S))) (CC - PT S) (12 * (CC - PT S)) (cA G S Hs.size) := by
  refine Met.ofW (cc := cX4_partAt) (maxL := 3) (ret := (some .int)) (by decide) rfl ?_
  intro p e s m args below meth c s₁ B hml hv
  obtain ⟨rfl, hsz, hP, hK, hD0, -⟩ := hv
  have hx := B.exec
  have hb := B.bytes
  have hr := B.returns
  have htu : ∀ w ∈ CU, w.before _ s = true := fun w h => atoms_spec (ws := (wC yX4_partAt cX4_partAt 3 (some .int))) B.pre w (List.mem_cons_of_mem _ h)
  have hown : s.vm.findClass RX4 = some m.cls := findClass_of_methodNamed B.named
  have hlocks := B.notSynchronized
  subst hsz
  have hD : cD (cA G S s.heap.size) G S := cD_self hD0
  have hl := lv_entry ([.ref (ga G 2), .int t, .int i]) (n := 3) (Nat.le_of_ble_eq_true rfl)
  rw [lg_entry_eq]
  generalize (lg_sl ([.ref (ga G 2), .int t, .int i]) ++ List.replicate (3 - (lg_sl ([.ref (ga G 2), .int t, .int i])).length) Slot.unset).toArray = ls at hl ⊢
  have hl : lv_has ls 3 [(0, .ref (ga G 2)), (1, .int t), (2, .int i)] := hl
  obtain ⟨H, hHe⟩ : ∃ H : Heap, H = s.heap := ⟨_, rfl⟩
  rw [← hHe] at hP
  have hS : va_S (cA G S s.heap.size) s.heap H [] := by rw [hHe]; exact va_S.rf
  have hh : HS S S := HS.rf
  have hpp : PT S ≤ PT S := Nat.le_refl _
  have hB9 := hC.1
  refine W.heq hHe ?_
  refine c_ent (S := S) ?_
  refine lv_aload_n hx hb dX4_partAt_0 rfl (lv_at hl 0 rfl) ?_
  refine va_get (D := gD G) (ci := 4) (v := .ref (kH S 11)) (C := RX4) (T := TX4) (N := 14) hx hb htu cu_in4 hown hK hP 2 cw_2 rfl 5 (by decide) (htu _ C_71) (fun _ h9 => h9) rfl dX4_partAt_1 ?_
  refine lv_aload_n hx hb dX4_partAt_4 rfl (lv_at hl 0 rfl) ?_
  refine va_get (D := gD G) (ci := 4) (v := .ref (kH S 8)) (C := RX4) (T := TX4) (N := 14) hx hb htu cu_in4 hown hK hP 2 cw_2 rfl 2 (by decide) (htu _ C_68) (fun _ h9 => h9) rfl dX4_partAt_5 ?_
  refine lv_iload_n hx hb dX4_partAt_8 rfl (lv_at hl 1 rfl) ?_
  have hC0 := hC
  refine c_ci (c_runV (As := [.int t]) (rest := [.ref (kH S 11)]) (q0 := (2 * 8 + 13)) (ci := 0) ⟨hx, hb, hml, hown, htu⟩ (c_getA l G S 8 (lt35 (by decide)) hC (kH S 8) rfl t H) (cwV 1 htu hU_X4_89 rfl rfl rfl (by decide +kernel) ⟨Nat.le_of_ble_eq_true rfl, Nat.le_of_ble_eq_true rfl⟩) hP hK hD hC hpp (c_hd rfl (cw_row (lt35 (by decide)))) rfl rfl hl.1 rfl (lv_room (Nat.le_of_ble_eq_true rfl)) dX4_partAt_9) hS hD hh hpp (fun r_1 S_2 H locs hw_3 hP hD hS hC hh hs_4 hpp => ?_)
  obtain ⟨hu9, hw_3⟩ := hw_3
  have hu9 := hu9.symm
  subst hu9
  refine lv_iload_n hx hb dX4_partAt_12 rfl (lv_at hl 2 rfl) ?_
  refine lv_iadd hx hb dX4_partAt_13 ?_
  refine lv_topi (fun f_5 ef_5 => ?_)
  have hC0 := hC
  refine c_ci (c_runV (As := [.int f_5]) (rest := []) (q0 := (2 * 11 + 13)) (ci := 0) ⟨hx, hb, hml, hown, htu⟩ (c_getA l G S 11 (lt35 (by decide)) hC (kH S 11) rfl f_5 H) (cwV 1 htu hU_X4_89 rfl rfl rfl (by decide +kernel) ⟨Nat.le_of_ble_eq_true rfl, Nat.le_of_ble_eq_true rfl⟩) hP hK hD hC hpp (c_hd rfl (cw_row (lt35 (by decide)))) rfl rfl hl.1 rfl (lv_room (Nat.le_of_ble_eq_true rfl)) dX4_partAt_14) hS hD hh hpp (fun r_6 S_7 H locs hw_8 hP hD hS hC hh hs_9 hpp => ?_)
  obtain ⟨hu9, hw_8⟩ := hw_8
  have hu9 := hu9.symm
  subst hu9
  exact c_iret (v := r_6) hx hb hr hK hP hD hS hC hh hpp ⟨AW.rf, rfl⟩ dX4_partAt_17 hlocks

set_option maxHeartbeats 4000000 in
set_option maxRecDepth 100000 in
/-- fieldCount -/
theorem y_fieldCount (l : Launch) (G : cG) (S : cS) (T : Nat) (V : Nat) (VP : Nat) (X : Nat) (Y : Nat) (Z : Nat) (t : Int32) (hC : CL S) (hY : TY S T V VP X Y Z) (Hs : Heap) : Met l yX4_fieldCount (wC yX4_fieldCount cX4_fieldCount 2 (some .int)) (cRm S 1 21) (cPc G S Hs [.ref (ga G 2), .int t]) (cQi G S Hs (fun v u => AW [] [] S u ∧ (u = S ∧ v ≤ 6))) (CC - PT S) (12 * (CC - PT S)) (cA G S Hs.size) := by
  refine Met.ofW (cc := cX4_fieldCount) (maxL := 2) (ret := (some .int)) (by decide) rfl ?_
  intro p e s m args below meth c s₁ B hml hv
  obtain ⟨rfl, hsz, hP, hK, hD0, -⟩ := hv
  have hx := B.exec
  have hb := B.bytes
  have hr := B.returns
  have htu : ∀ w ∈ CU, w.before _ s = true := fun w h => atoms_spec (ws := (wC yX4_fieldCount cX4_fieldCount 2 (some .int))) B.pre w (List.mem_cons_of_mem _ h)
  have hown : s.vm.findClass RX4 = some m.cls := findClass_of_methodNamed B.named
  have hlocks := B.notSynchronized
  subst hsz
  have hD : cD (cA G S s.heap.size) G S := cD_self hD0
  have hl := lv_entry ([.ref (ga G 2), .int t]) (n := 2) (Nat.le_of_ble_eq_true rfl)
  rw [lg_entry_eq]
  generalize (lg_sl ([.ref (ga G 2), .int t]) ++ List.replicate (2 - (lg_sl ([.ref (ga G 2), .int t])).length) Slot.unset).toArray = ls at hl ⊢
  have hl : lv_has ls 2 [(0, .ref (ga G 2)), (1, .int t)] := hl
  obtain ⟨H, hHe⟩ : ∃ H : Heap, H = s.heap := ⟨_, rfl⟩
  rw [← hHe] at hP
  have hS : va_S (cA G S s.heap.size) s.heap H [] := by rw [hHe]; exact va_S.rf
  have hh : HS S S := HS.rf
  have hpp : PT S ≤ PT S := Nat.le_refl _
  have hB9 := hC.1
  refine W.heq hHe ?_
  refine c_ent (S := S) ?_
  obtain ⟨⟨k6, k7, k8, k9, k16, k14, k10, k11, k12, k13, k17, k18⟩, ⟨tT, tV, tB, tX⟩, tv, tr, ts⟩ := id hY
  refine lv_aload_n hx hb dX4_fieldCount_0 rfl (lv_at hl 0 rfl) ?_
  refine va_get (D := gD G) (ci := 4) (v := .ref (kH S 6)) (C := RX4) (T := TX4) (N := 14) hx hb htu cu_in4 hown hK hP 2 cw_2 rfl 0 (by decide) (htu _ C_66) (fun _ h9 => h9) rfl dX4_fieldCount_1 ?_
  refine lv_iload_n hx hb dX4_fieldCount_4 rfl (lv_at hl 1 rfl) ?_
  have hC0 := hC
  refine c_ci (c_runV (As := [.int t]) (rest := []) (q0 := (2 * 6 + 13)) (ci := 0) ⟨hx, hb, hml, hown, htu⟩ (c_getA l G S 6 (lt35 (by decide)) hC (kH S 6) rfl t H) (cwV 1 htu hU_X4_89 rfl rfl rfl (by decide +kernel) ⟨Nat.le_of_ble_eq_true rfl, Nat.le_of_ble_eq_true rfl⟩) hP hK hD hC hpp (c_hd rfl (cw_row (lt35 (by decide)))) rfl rfl hl.1 rfl (lv_room (Nat.le_of_ble_eq_true rfl)) dX4_fieldCount_5) hS hD hh hpp (fun r_1 S_2 H locs hw_3 hP hD hS hC hh hs_4 hpp => ?_)
  obtain ⟨hu9, hw_3⟩ := hw_3
  have hu9 := hu9.symm
  subst hu9
  refine lv_iconst (v := 3) hx hb dX4_fieldCount_8 (by decide) ?_
  refine lv_icmp_ne (tgt := 23) hx hb dX4_fieldCount_9 (by decide) (fun c_5 => ?_) (fun c_5 => ?_)
  · skip
    refine lv_iconst (v := 0) hx hb dX4_fieldCount_23 (by decide) ?_
    exact c_iret (v := 0) hx hb hr hK hP hD hS hC hh hpp ⟨AW.rf, ⟨rfl, by decide⟩⟩ dX4_fieldCount_24 hlocks
  · skip
    refine lv_aload_n hx hb dX4_fieldCount_12 rfl (lv_at hl 0 rfl) ?_
    refine va_get (D := gD G) (ci := 4) (v := .ref (kH S 9)) (C := RX4) (T := TX4) (N := 14) hx hb htu cu_in4 hown hK hP 2 cw_2 rfl 3 (by decide) (htu _ C_69) (fun _ h9 => h9) rfl dX4_fieldCount_13 ?_
    refine lv_iload_n hx hb dX4_fieldCount_16 rfl (lv_at hl 1 rfl) ?_
    have hC0 := hC
    refine c_ci (c_runV (As := [.int t]) (rest := []) (q0 := (2 * 9 + 13)) (ci := 0) ⟨hx, hb, hml, hown, htu⟩ (c_getA l G S 9 (lt35 (by decide)) hC (kH S 9) rfl t H) (cwV 1 htu hU_X4_89 rfl rfl rfl (by decide +kernel) ⟨Nat.le_of_ble_eq_true rfl, Nat.le_of_ble_eq_true rfl⟩) hP hK hD hC hpp (c_hd rfl (cw_row (lt35 (by decide)))) rfl rfl hl.1 rfl (lv_room (Nat.le_of_ble_eq_true rfl)) dX4_fieldCount_17) hS hD hh hpp (fun r_6 S_7 H locs hw_8 hP hD hS hC hh hs_9 hpp => ?_)
    obtain ⟨hu9, hw_8⟩ := hw_8
    have hu9 := hu9.symm
    subst hu9
    refine lv_goto (tgt := 24) hx hb dX4_fieldCount_20 (by decide) ?_
    obtain ⟨j9, q1, q2, q3⟩ := rget_in (v := 3) (hw_3.symm.trans c_5) (by decide) (by omega)
    have h69 : r_6 ≤ 6 := by rw [hw_8, q2]; unfold rget; rw [if_neg (nI_n0 (by omega)), if_neg (fun h => by rw [i_le, nI_toInt (by omega), nI_toInt (by omega)] at h; omega), nI_clamp (by omega)]; exact tr j9 (by omega) q3
    exact c_iret (v := r_6) hx hb hr hK hP hD hS hC hh hpp ⟨AW.rf, ⟨rfl, h69⟩⟩ dX4_fieldCount_24 hlocks
