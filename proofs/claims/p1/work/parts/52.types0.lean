theorem dX4_ofVariable_0 : decode cX4_ofVariable 0 = .ok (.aload_n 0, 1) := by decide +kernel
theorem dX4_ofVariable_1 : decode cX4_ofVariable 1 = .ok (.getfield 39, 3) := by decide +kernel
theorem dX4_ofVariable_4 : decode cX4_ofVariable 4 = .ok (.iload_n 1, 1) := by decide +kernel
set_option maxRecDepth 20000 in
theorem ggX4_ofVariable_X0_get : GoodIn wsX4_ofVariable wsX0_get := goodIn_r _ [6, 7, 8, 23, 24] (by decide +kernel) (by decide +kernel)
set_option maxRecDepth 20000 in
theorem gX4_ofVariable_X0_get : GoodIn wsX4_ofVariable (wsV RX4 89 RX0 yX0_get wsX0_get) := goodIn_app (goodIn_of _ (by decide +kernel)) ggX4_ofVariable_X0_get
theorem dX4_ofVariable_5 : decode cX4_ofVariable 5 = .ok (.invokevirtual 89, 3) := by decide +kernel
theorem dX4_ofVariable_8 : decode cX4_ofVariable 8 = .ok (.ireturn, 1) := by decide +kernel
theorem dX4_variableCount_0 : decode cX4_variableCount 0 = .ok (.aload_n 0, 1) := by decide +kernel
theorem dX4_variableCount_1 : decode cX4_variableCount 1 = .ok (.getfield 39, 3) := by decide +kernel
theorem dX4_variableCount_4 : decode cX4_variableCount 4 = .ok (.getfield 69, 3) := by decide +kernel
theorem dX4_variableCount_7 : decode cX4_variableCount 7 = .ok (.ireturn, 1) := by decide +kernel
set_option maxHeartbeats 4000000 in
set_option maxRecDepth 100000 in
/-- ofVariable, with no variable -/
theorem c_ofVariable0 (l : Launch) (dC : Nat → ClassId) (dI : Nat → Nat → Nat) (cI : ClassId) (h0 : Nat) (pd : Nat → Nat) (q : Nat) (v : Int32) (sz : Nat) : Met l yX4_ofVariable wsX4_ofVariable ({ frames := 1, cells := 0, slots := 0, locals := 21 }) (va_Pc [.ref h0, .int v] (fun U => U.heap.size = sz ∧ va_P (dC, dI) vwCl [(h0, .inr (4, [.ref (pd 0), .ref (pd 1), .ref (pd 2), .ref (pd 3), .ref (pd 4), .ref (pd 5), .ref (pd 6), .ref (pd 7), .ref (pd 8), .ref (pd 9), .ref (pd 10), .ref (pd 11), .ref (pd 12), .ref (pd 13)])), (pd 8, .inr (0, [.ref q, .int (nI 0)]))] U.heap ∧ va_K (dC, dI) vwCl [(cI, .int)] U ∧ va_D (fun _ => True) [(h0, .inr (4, [.ref (pd 0), .ref (pd 1), .ref (pd 2), .ref (pd 3), .ref (pd 4), .ref (pd 5), .ref (pd 6), .ref (pd 7), .ref (pd 8), .ref (pd 9), .ref (pd 10), .ref (pd 11), .ref (pd 12), .ref (pd 13)])), (pd 8, .inr (0, [.ref q, .int (nI 0)]))])) (va_Qi (fun (r : Int32) (_ : Unit) => r = (-9)) (fun (_ : Unit) (t : State) => va_P (dC, dI) vwCl [(h0, .inr (4, [.ref (pd 0), .ref (pd 1), .ref (pd 2), .ref (pd 3), .ref (pd 4), .ref (pd 5), .ref (pd 6), .ref (pd 7), .ref (pd 8), .ref (pd 9), .ref (pd 10), .ref (pd 11), .ref (pd 12), .ref (pd 13)])), (pd 8, .inr (0, [.ref q, .int (nI 0)]))] t.heap ∧ va_K (dC, dI) vwCl [(cI, .int)] t ∧ va_D (va_A [(h0, .inr (4, [.ref (pd 0), .ref (pd 1), .ref (pd 2), .ref (pd 3), .ref (pd 4), .ref (pd 5), .ref (pd 6), .ref (pd 7), .ref (pd 8), .ref (pd 9), .ref (pd 10), .ref (pd 11), .ref (pd 12), .ref (pd 13)])), (pd 8, .inr (0, [.ref q, .int (nI 0)]))] sz) [(h0, .inr (4, [.ref (pd 0), .ref (pd 1), .ref (pd 2), .ref (pd 3), .ref (pd 4), .ref (pd 5), .ref (pd 6), .ref (pd 7), .ref (pd 8), .ref (pd 9), .ref (pd 10), .ref (pd 11), .ref (pd 12), .ref (pd 13)])), (pd 8, .inr (0, [.ref q, .int (nI 0)]))]) (va_A [(h0, .inr (4, [.ref (pd 0), .ref (pd 1), .ref (pd 2), .ref (pd 3), .ref (pd 4), .ref (pd 5), .ref (pd 6), .ref (pd 7), .ref (pd 8), .ref (pd 9), .ref (pd 10), .ref (pd 11), .ref (pd 12), .ref (pd 13)])), (pd 8, .inr (0, [.ref q, .int (nI 0)]))] sz)) 0 0 (va_A [(h0, .inr (4, [.ref (pd 0), .ref (pd 1), .ref (pd 2), .ref (pd 3), .ref (pd 4), .ref (pd 5), .ref (pd 6), .ref (pd 7), .ref (pd 8), .ref (pd 9), .ref (pd 10), .ref (pd 11), .ref (pd 12), .ref (pd 13)])), (pd 8, .inr (0, [.ref q, .int (nI 0)]))] sz) := by
  refine Met.ofW (cc := cX4_ofVariable) (maxL := 2) (ret := (some .int)) (by decide) rfl ?_
  intro p e s m args below meth c s₁ B hml hv
  obtain ⟨rfl, hsz, hP, hK, hD0⟩ := hv
  have hx := B.exec
  have hb := B.bytes
  have hr := B.returns
  have hts := atoms_spec (ws := wsX4_ofVariable) B.pre
  have hown : s.vm.findClass RX4 = some m.cls := findClass_of_methodNamed B.named
  have hlocks := B.notSynchronized
  subst hsz
  have hD := hD0.self (sz := s.heap.size)
  generalize hAe : va_A [(h0, .inr (4, [.ref (pd 0), .ref (pd 1), .ref (pd 2), .ref (pd 3), .ref (pd 4), .ref (pd 5), .ref (pd 6), .ref (pd 7), .ref (pd 8), .ref (pd 9), .ref (pd 10), .ref (pd 11), .ref (pd 12), .ref (pd 13)])), (pd 8, .inr (0, [.ref q, .int (nI 0)]))] s.heap.size = A at hD ⊢
  have hA : ∀ q : Nat, s.heap.size ≤ q → A q := fun q h => by rw [← hAe]; exact Or.inr h
  have hS : va_S A s.heap s.heap [] := va_S.rf
  have hP : va_P (dC, dI) vwCl [(h0, .inr (4, [.ref (pd 0), .ref (pd 1), .ref (pd 2), .ref (pd 3), .ref (pd 4), .ref (pd 5), .ref (pd 6), .ref (pd 7), .ref (pd 8), .ref (pd 9), .ref (pd 10), .ref (pd 11), .ref (pd 12), .ref (pd 13)])), (pd 8, .inr (0, [.ref q, .int (nI 0)]))] s.heap := hP
  have hl := lv_entry ([.ref h0, .int v]) (n := 2) (Nat.le_of_ble_eq_true rfl)
  rw [lg_entry_eq]
  generalize (lg_sl ([.ref h0, .int v]) ++ List.replicate (2 - (lg_sl ([.ref h0, .int v])).length) Slot.unset).toArray = ls at hl ⊢
  have hl : lv_has ls 2 [(0, .ref h0), (1, .int v)] := hl
  obtain ⟨H, hHe⟩ : ∃ H : Heap, H = s.heap := ⟨_, rfl⟩
  rw [← hHe] at hP ⊢
  have hS : va_S A s.heap H [] := by rw [hHe]; exact va_S.rf
  refine lv_aload_n hx hb dX4_ofVariable_0 rfl (lv_at hl 0 rfl) ?_
  refine va_get (D := (dC, dI)) (ci := 4) (v := .ref (pd 8)) (C := RX4) (T := TX4) (N := 14) hx hb hts (fun w h => List.mem_cons_of_mem _ (List.mem_append_left _ (List.mem_append_right _ h))) hown hK hP 0 rfl rfl 8 (by decide) (hts (.fieldLink RX4 39 "PolarTypes$Types" "variables" "LPolarTypes$Row;") (List.mem_of_getElem? (i := 1) (by decide +kernel))) (fun _ h9 => h9) rfl dX4_ofVariable_1 ?_
  refine lv_iload_n hx hb dX4_ofVariable_4 rfl (lv_at hl 1 rfl) ?_
  have hPc := hP.sub (ws' := [(pd 8, .inr (0, [.ref q, .int (nI 0)]))]) [1] rfl
  have hDc := hD.sub (ws' := [(pd 8, .inr (0, [.ref q, .int (nI 0)]))]) [1] (by decide) rfl
  have hFc := va_free (wc := [(pd 8, .inr (0, [.ref q, .int (nI 0)]))]) hD hS hA [1] rfl
  refine va_calli (va_runV (As := [.int v]) (rest := []) ⟨hx, hb, hml, hown, hts⟩ (c_Row_get0 l dC dI cI (pd 8) q v H.size) (cwV 1 hts gX4_ofVariable_X0_get rfl rfl rfl (by decide +kernel) ⟨Nat.le_of_ble_eq_true rfl, Nat.le_of_ble_eq_true rfl⟩) ⟨fun a U g mk q => by obtain ⟨q0, q1, qP, qK, qD⟩ := q; exact ⟨q0, q1, qP, va_K.moved (u := U) (U := U.calling g mk a) (Vm.Alike.refl U.vm) qK, qD⟩, va_recv hK hPc (ci := 0) (q0 := 0) rfl rfl, fun U hU hW => ⟨rfl, by rw [hU], by rw [hU]; exact hPc, va_K.moved hW.alike hK, hDc.weaken (fun _ _ _ _ => trivial)⟩⟩ rfl rfl hl.1 rfl (lv_room (Nat.le_of_ble_eq_true rfl)) dX4_ofVariable_5 ⟨Nat.le_of_ble_eq_true rfl, Nat.le_of_ble_eq_true rfl⟩) hS (fun q _ h => hFc q h) hFc (fun r_1 u t H1 locs ht hvm hw hB hz1 hk1 hS => ?_)
  obtain ⟨hP1, hK1, hD1⟩ := hB
  rw [ht] at hP1
  obtain ⟨hP, hD⟩ := va_join (wr := [(h0, .inr (4, [.ref (pd 0), .ref (pd 1), .ref (pd 2), .ref (pd 3), .ref (pd 4), .ref (pd 5), .ref (pd 6), .ref (pd 7), .ref (pd 8), .ref (pd 9), .ref (pd 10), .ref (pd 11), .ref (pd 12), .ref (pd 13)]))]) (w1 := [(pd 8, .inr (0, [.ref q, .int (nI 0)]))]) hP hD [1] [0] rfl rfl (by decide) (by decide) hk1 hFc hP1 hD1
  generalize H1 = H at hP hS ⊢
  obtain rfl : r_1 = (-9) := hw
  have hP : va_P (dC, dI) vwCl [(h0, .inr (4, [.ref (pd 0), .ref (pd 1), .ref (pd 2), .ref (pd 3), .ref (pd 4), .ref (pd 5), .ref (pd 6), .ref (pd 7), .ref (pd 8), .ref (pd 9), .ref (pd 10), .ref (pd 11), .ref (pd 12), .ref (pd 13)])), (pd 8, .inr (0, [.ref q, .int (nI 0)]))] H := hP
  have hD : va_D A [(h0, .inr (4, [.ref (pd 0), .ref (pd 1), .ref (pd 2), .ref (pd 3), .ref (pd 4), .ref (pd 5), .ref (pd 6), .ref (pd 7), .ref (pd 8), .ref (pd 9), .ref (pd 10), .ref (pd 11), .ref (pd 12), .ref (pd 13)])), (pd 8, .inr (0, [.ref q, .int (nI 0)]))] := hD
  refine W.widen (k := 0) (n := 0) (Nat.le_of_ble_eq_true rfl) (Nat.le_of_ble_eq_true rfl) ?_
  have hP9 := hP.sub (ws' := [(h0, .inr (4, [.ref (pd 0), .ref (pd 1), .ref (pd 2), .ref (pd 3), .ref (pd 4), .ref (pd 5), .ref (pd 6), .ref (pd 7), .ref (pd 8), .ref (pd 9), .ref (pd 10), .ref (pd 11), .ref (pd 12), .ref (pd 13)])), (pd 8, .inr (0, [.ref q, .int (nI 0)]))]) [0, 1] rfl
  have hD9 := hD.sub (ws' := [(h0, .inr (4, [.ref (pd 0), .ref (pd 1), .ref (pd 2), .ref (pd 3), .ref (pd 4), .ref (pd 5), .ref (pd 6), .ref (pd 7), .ref (pd 8), .ref (pd 9), .ref (pd 10), .ref (pd 11), .ref (pd 12), .ref (pd 13)])), (pd 8, .inr (0, [.ref q, .int (nI 0)]))]) [0, 1] (by decide) rfl
  refine W.widen (k := 0) (n := 0) (Nat.le_of_ble_eq_true rfl) (Nat.le_of_ble_eq_true rfl) ?_
  exact W.iret (v := (-9)) hx hb hr (fun t ht hW => ⟨⟨(-9), (), rfl, rfl, by rw [ht]; exact hP9, va_K.moved hW.alike hK, hD9⟩, hS.F ht⟩) hS.2.2 dX4_ofVariable_8

set_option maxHeartbeats 4000000 in
set_option maxRecDepth 100000 in
/-- variableCount, with no variable -/
theorem c_variableCount0 (l : Launch) (dC : Nat → ClassId) (dI : Nat → Nat → Nat) (cI : ClassId) (h0 : Nat) (pd : Nat → Nat) (q : Nat) (sz : Nat) : Met l yX4_variableCount wsX4_variableCount ({ frames := 0, cells := 0, slots := 0, locals := 0 }) (va_Pc [.ref h0] (fun U => U.heap.size = sz ∧ va_P (dC, dI) vwCl [(h0, .inr (4, [.ref (pd 0), .ref (pd 1), .ref (pd 2), .ref (pd 3), .ref (pd 4), .ref (pd 5), .ref (pd 6), .ref (pd 7), .ref (pd 8), .ref (pd 9), .ref (pd 10), .ref (pd 11), .ref (pd 12), .ref (pd 13)])), (pd 8, .inr (0, [.ref q, .int (nI 0)]))] U.heap ∧ va_K (dC, dI) vwCl [(cI, .int)] U ∧ va_D (fun _ => True) [(h0, .inr (4, [.ref (pd 0), .ref (pd 1), .ref (pd 2), .ref (pd 3), .ref (pd 4), .ref (pd 5), .ref (pd 6), .ref (pd 7), .ref (pd 8), .ref (pd 9), .ref (pd 10), .ref (pd 11), .ref (pd 12), .ref (pd 13)])), (pd 8, .inr (0, [.ref q, .int (nI 0)]))])) (va_Qi (fun (r : Int32) (_ : Unit) => r = 0) (fun (_ : Unit) (t : State) => va_P (dC, dI) vwCl [(h0, .inr (4, [.ref (pd 0), .ref (pd 1), .ref (pd 2), .ref (pd 3), .ref (pd 4), .ref (pd 5), .ref (pd 6), .ref (pd 7), .ref (pd 8), .ref (pd 9), .ref (pd 10), .ref (pd 11), .ref (pd 12), .ref (pd 13)])), (pd 8, .inr (0, [.ref q, .int (nI 0)]))] t.heap ∧ va_K (dC, dI) vwCl [(cI, .int)] t ∧ va_D (va_A [(h0, .inr (4, [.ref (pd 0), .ref (pd 1), .ref (pd 2), .ref (pd 3), .ref (pd 4), .ref (pd 5), .ref (pd 6), .ref (pd 7), .ref (pd 8), .ref (pd 9), .ref (pd 10), .ref (pd 11), .ref (pd 12), .ref (pd 13)])), (pd 8, .inr (0, [.ref q, .int (nI 0)]))] sz) [(h0, .inr (4, [.ref (pd 0), .ref (pd 1), .ref (pd 2), .ref (pd 3), .ref (pd 4), .ref (pd 5), .ref (pd 6), .ref (pd 7), .ref (pd 8), .ref (pd 9), .ref (pd 10), .ref (pd 11), .ref (pd 12), .ref (pd 13)])), (pd 8, .inr (0, [.ref q, .int (nI 0)]))]) (va_A [(h0, .inr (4, [.ref (pd 0), .ref (pd 1), .ref (pd 2), .ref (pd 3), .ref (pd 4), .ref (pd 5), .ref (pd 6), .ref (pd 7), .ref (pd 8), .ref (pd 9), .ref (pd 10), .ref (pd 11), .ref (pd 12), .ref (pd 13)])), (pd 8, .inr (0, [.ref q, .int (nI 0)]))] sz)) 0 0 (va_A [(h0, .inr (4, [.ref (pd 0), .ref (pd 1), .ref (pd 2), .ref (pd 3), .ref (pd 4), .ref (pd 5), .ref (pd 6), .ref (pd 7), .ref (pd 8), .ref (pd 9), .ref (pd 10), .ref (pd 11), .ref (pd 12), .ref (pd 13)])), (pd 8, .inr (0, [.ref q, .int (nI 0)]))] sz) := by
  refine Met.ofW (cc := cX4_variableCount) (maxL := 1) (ret := (some .int)) (by decide) rfl ?_
  intro p e s m args below meth c s₁ B hml hv
  obtain ⟨rfl, hsz, hP, hK, hD0⟩ := hv
  have hx := B.exec
  have hb := B.bytes
  have hr := B.returns
  have hts := atoms_spec (ws := wsX4_variableCount) B.pre
  have hown : s.vm.findClass RX4 = some m.cls := findClass_of_methodNamed B.named
  have hlocks := B.notSynchronized
  subst hsz
  have hD := hD0.self (sz := s.heap.size)
  generalize hAe : va_A [(h0, .inr (4, [.ref (pd 0), .ref (pd 1), .ref (pd 2), .ref (pd 3), .ref (pd 4), .ref (pd 5), .ref (pd 6), .ref (pd 7), .ref (pd 8), .ref (pd 9), .ref (pd 10), .ref (pd 11), .ref (pd 12), .ref (pd 13)])), (pd 8, .inr (0, [.ref q, .int (nI 0)]))] s.heap.size = A at hD ⊢
  have hA : ∀ q : Nat, s.heap.size ≤ q → A q := fun q h => by rw [← hAe]; exact Or.inr h
  have hS : va_S A s.heap s.heap [] := va_S.rf
  have hP : va_P (dC, dI) vwCl [(h0, .inr (4, [.ref (pd 0), .ref (pd 1), .ref (pd 2), .ref (pd 3), .ref (pd 4), .ref (pd 5), .ref (pd 6), .ref (pd 7), .ref (pd 8), .ref (pd 9), .ref (pd 10), .ref (pd 11), .ref (pd 12), .ref (pd 13)])), (pd 8, .inr (0, [.ref q, .int (nI 0)]))] s.heap := hP
  have hl := lv_entry ([.ref h0]) (n := 1) (Nat.le_of_ble_eq_true rfl)
  rw [lg_entry_eq]
  generalize (lg_sl ([.ref h0]) ++ List.replicate (1 - (lg_sl ([.ref h0])).length) Slot.unset).toArray = ls at hl ⊢
  have hl : lv_has ls 1 [(0, .ref h0)] := hl
  obtain ⟨H, hHe⟩ : ∃ H : Heap, H = s.heap := ⟨_, rfl⟩
  rw [← hHe] at hP ⊢
  have hS : va_S A s.heap H [] := by rw [hHe]; exact va_S.rf
  refine lv_aload_n hx hb dX4_variableCount_0 rfl (lv_at hl 0 rfl) ?_
  refine va_get (D := (dC, dI)) (ci := 4) (v := .ref (pd 8)) (C := RX4) (T := TX4) (N := 14) hx hb hts (fun w h => List.mem_cons_of_mem _ (List.mem_append_left _ (List.mem_append_right _ h))) hown hK hP 0 rfl rfl 8 (by decide) (hts (.fieldLink RX4 39 "PolarTypes$Types" "variables" "LPolarTypes$Row;") (List.mem_of_getElem? (i := 1) (by decide +kernel))) (fun _ h9 => h9) rfl dX4_variableCount_1 ?_
  refine va_get (D := (dC, dI)) (ci := 0) (v := .int (nI 0)) (C := RX0) (T := TX0) (N := 2) hx hb hts (fun w h => List.mem_cons_of_mem _ (List.mem_append_right _ h)) hown hK hP 1 rfl rfl 1 (by decide) (hts (.fieldLink RX4 69 "PolarTypes$Row" "size" "I") (List.mem_of_getElem? (i := 2) (by decide +kernel))) (fun _ h9 => h9) rfl dX4_variableCount_4 ?_
  have hP9 := hP.sub (ws' := [(h0, .inr (4, [.ref (pd 0), .ref (pd 1), .ref (pd 2), .ref (pd 3), .ref (pd 4), .ref (pd 5), .ref (pd 6), .ref (pd 7), .ref (pd 8), .ref (pd 9), .ref (pd 10), .ref (pd 11), .ref (pd 12), .ref (pd 13)])), (pd 8, .inr (0, [.ref q, .int (nI 0)]))]) [0, 1] rfl
  have hD9 := hD.sub (ws' := [(h0, .inr (4, [.ref (pd 0), .ref (pd 1), .ref (pd 2), .ref (pd 3), .ref (pd 4), .ref (pd 5), .ref (pd 6), .ref (pd 7), .ref (pd 8), .ref (pd 9), .ref (pd 10), .ref (pd 11), .ref (pd 12), .ref (pd 13)])), (pd 8, .inr (0, [.ref q, .int (nI 0)]))]) [0, 1] (by decide) rfl
  refine W.widen (k := 0) (n := 0) (Nat.le_of_ble_eq_true rfl) (Nat.le_of_ble_eq_true rfl) ?_
  exact W.iret (v := nI 0) hx hb hr (fun t ht hW => ⟨⟨nI 0, (), rfl, rfl, by rw [ht]; exact hP9, va_K.moved hW.alike hK, hD9⟩, hS.F ht⟩) hS.2.2 dX4_variableCount_7

