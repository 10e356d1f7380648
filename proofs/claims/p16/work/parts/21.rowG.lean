theorem dX0_get_0 : decode cX0_get 0 = .ok (.iload_n 1, 1) := by decide +kernel
theorem dX0_get_1 : decode cX0_get 1 = .ok (.ifCond .lt 20, 3) := by decide +kernel
theorem dX0_get_21 : decode cX0_get 21 = .ok (.bipush (-9), 2) := by decide +kernel
theorem dX0_get_23 : decode cX0_get 23 = .ok (.ireturn, 1) := by decide +kernel
theorem dX0_get_4 : decode cX0_get 4 = .ok (.iload_n 1, 1) := by decide +kernel
theorem dX0_get_5 : decode cX0_get 5 = .ok (.aload_n 0, 1) := by decide +kernel
theorem dX0_get_6 : decode cX0_get 6 = .ok (.getfield 19, 3) := by decide +kernel
theorem dX0_get_9 : decode cX0_get 9 = .ok (.if_icmp .ge 12, 3) := by decide +kernel
theorem dX0_get_12 : decode cX0_get 12 = .ok (.aload_n 0, 1) := by decide +kernel
theorem dX0_get_13 : decode cX0_get 13 = .ok (.getfield 9, 3) := by decide +kernel
theorem dX0_get_16 : decode cX0_get 16 = .ok (.iload_n 1, 1) := by decide +kernel
theorem dX0_get_17 : decode cX0_get 17 = .ok (.iaload, 1) := by decide +kernel
theorem dX0_get_18 : decode cX0_get 18 = .ok (.goto 5, 3) := by decide +kernel
theorem dX0_holds_0 : decode cX0_holds 0 = .ok (.iload_n 1, 1) := by decide +kernel
theorem dX0_holds_1 : decode cX0_holds 1 = .ok (.ifCond .lt 15, 3) := by decide +kernel
theorem dX0_holds_16 : decode cX0_holds 16 = .ok (.iconst 0, 1) := by decide +kernel
theorem dX0_holds_17 : decode cX0_holds 17 = .ok (.ireturn, 1) := by decide +kernel
theorem dX0_holds_4 : decode cX0_holds 4 = .ok (.iload_n 1, 1) := by decide +kernel
theorem dX0_holds_5 : decode cX0_holds 5 = .ok (.aload_n 0, 1) := by decide +kernel
theorem dX0_holds_6 : decode cX0_holds 6 = .ok (.getfield 19, 3) := by decide +kernel
theorem dX0_holds_9 : decode cX0_holds 9 = .ok (.if_icmp .ge 7, 3) := by decide +kernel
theorem dX0_holds_12 : decode cX0_holds 12 = .ok (.iconst 1, 1) := by decide +kernel
theorem dX0_holds_13 : decode cX0_holds 13 = .ok (.goto 4, 3) := by decide +kernel
theorem dX0_set_0 : decode cX0_set 0 = .ok (.iload_n 1, 1) := by decide +kernel
theorem dX0_set_1 : decode cX0_set 1 = .ok (.ifCond .lt 18, 3) := by decide +kernel
theorem dX0_set_19 : decode cX0_set 19 = .ok (.return_, 1) := by decide +kernel
theorem dX0_set_4 : decode cX0_set 4 = .ok (.iload_n 1, 1) := by decide +kernel
theorem dX0_set_5 : decode cX0_set 5 = .ok (.aload_n 0, 1) := by decide +kernel
theorem dX0_set_6 : decode cX0_set 6 = .ok (.getfield 19, 3) := by decide +kernel
theorem dX0_set_9 : decode cX0_set 9 = .ok (.if_icmp .ge 10, 3) := by decide +kernel
theorem dX0_set_12 : decode cX0_set 12 = .ok (.aload_n 0, 1) := by decide +kernel
theorem dX0_set_13 : decode cX0_set 13 = .ok (.getfield 9, 3) := by decide +kernel
theorem dX0_set_16 : decode cX0_set 16 = .ok (.iload_n 1, 1) := by decide +kernel
theorem dX0_set_17 : decode cX0_set 17 = .ok (.iload_n 2, 1) := by decide +kernel
theorem dX0_set_18 : decode cX0_set 18 = .ok (.iastore, 1) := by decide +kernel
theorem dX0_cutTo_0 : decode cX0_cutTo 0 = .ok (.iload_n 1, 1) := by decide +kernel
theorem dX0_cutTo_1 : decode cX0_cutTo 1 = .ok (.ifCond .lt 16, 3) := by decide +kernel
theorem dX0_cutTo_17 : decode cX0_cutTo 17 = .ok (.return_, 1) := by decide +kernel
theorem dX0_cutTo_4 : decode cX0_cutTo 4 = .ok (.iload_n 1, 1) := by decide +kernel
theorem dX0_cutTo_5 : decode cX0_cutTo 5 = .ok (.aload_n 0, 1) := by decide +kernel
theorem dX0_cutTo_6 : decode cX0_cutTo 6 = .ok (.getfield 19, 3) := by decide +kernel
theorem dX0_cutTo_9 : decode cX0_cutTo 9 = .ok (.if_icmp .ge 8, 3) := by decide +kernel
theorem dX0_cutTo_12 : decode cX0_cutTo 12 = .ok (.aload_n 0, 1) := by decide +kernel
theorem dX0_cutTo_13 : decode cX0_cutTo 13 = .ok (.iload_n 1, 1) := by decide +kernel
theorem dX0_cutTo_14 : decode cX0_cutTo 14 = .ok (.putfield 19, 3) := by decide +kernel
set_option maxHeartbeats 4000000 in
set_option maxRecDepth 100000 in
/-- get: the place, or NONE -/
theorem g_Row_get (l : Launch) (dC : Nat → ClassId) (dI : Nat → Nat → Nat) (cI : ClassId) (h0 : Nat) (q : Nat) (k : Nat) (n : Nat) (f : Nat → Int32) (i : Int32) (hk : k ≤ n) (hn : n ≤ 1000000) (sz : Nat) : Met l yX0_get wsX0_get ({ frames := 0, cells := 0, slots := 0, locals := 0 }) (va_Pc [.ref h0, .int i] (fun U => U.heap.size = sz ∧ va_P (dC, dI) vwCl [(h0, .inr (0, [.ref q, .int (nI k)])), (q, .inl (cI, n, .inl f))] U.heap ∧ va_K (dC, dI) vwCl [(cI, .int)] U ∧ va_D (fun _ => True) [(h0, .inr (0, [.ref q, .int (nI k)])), (q, .inl (cI, n, .inl f))])) (va_Qi (fun (r : Int32) (_ : Unit) => r = rget f k i) (fun (_ : Unit) (t : State) => va_P (dC, dI) vwCl [(h0, .inr (0, [.ref q, .int (nI k)])), (q, .inl (cI, n, .inl f))] t.heap ∧ va_K (dC, dI) vwCl [(cI, .int)] t ∧ va_D (va_A [(h0, .inr (0, [.ref q, .int (nI k)])), (q, .inl (cI, n, .inl f))] sz) [(h0, .inr (0, [.ref q, .int (nI k)])), (q, .inl (cI, n, .inl f))]) (va_A [(h0, .inr (0, [.ref q, .int (nI k)])), (q, .inl (cI, n, .inl f))] sz)) 0 0 (va_A [(h0, .inr (0, [.ref q, .int (nI k)])), (q, .inl (cI, n, .inl f))] sz) := by
  refine Met.ofW (cc := cX0_get) (maxL := 2) (ret := (some .int)) (by decide) rfl ?_
  intro p e s m args below meth c s₁ B hml hv
  obtain ⟨rfl, hsz, hP, hK, hD0⟩ := hv
  have hx := B.exec
  have hb := B.bytes
  have hr := B.returns
  have hts := atoms_spec (ws := wsX0_get) B.pre
  have hown : s.vm.findClass RX0 = some m.cls := findClass_of_methodNamed B.named
  have hlocks := B.notSynchronized
  subst hsz
  have hD := hD0.self (sz := s.heap.size)
  generalize hAe : va_A [(h0, .inr (0, [.ref q, .int (nI k)])), (q, .inl (cI, n, .inl f))] s.heap.size = A at hD ⊢
  have hA : ∀ q : Nat, s.heap.size ≤ q → A q := fun q h => by rw [← hAe]; exact Or.inr h
  have hS : va_S A s.heap s.heap [] := va_S.rf
  have hP : va_P (dC, dI) vwCl [(h0, .inr (0, [.ref q, .int (nI k)])), (q, .inl (cI, n, .inl f))] s.heap := hP
  have hl := lv_entry ([.ref h0, .int i]) (n := 2) (Nat.le_of_ble_eq_true rfl)
  rw [lg_entry_eq]
  generalize (lg_sl ([.ref h0, .int i]) ++ List.replicate (2 - (lg_sl ([.ref h0, .int i])).length) Slot.unset).toArray = ls at hl ⊢
  have hl : lv_has ls 2 [(0, .ref h0), (1, .int i)] := hl
  obtain ⟨H, hHe⟩ : ∃ H : Heap, H = s.heap := ⟨_, rfl⟩
  rw [← hHe] at hP ⊢
  have hS : va_S A s.heap H [] := by rw [hHe]; exact va_S.rf
  refine lv_iload_n hx hb dX0_get_0 rfl (lv_at hl 1 rfl) ?_
  refine lv_if_lt (tgt := 21) hx hb dX0_get_1 (by decide) (fun c_1 => ?_) (fun c_1 => ?_)
  · skip
    refine lv_bipush (v := (-9)) hx hb dX0_get_21 (by decide) ?_
    have hP9 := hP.sub (ws' := [(h0, .inr (0, [.ref q, .int (nI k)])), (q, .inl (cI, n, .inl f))]) [0, 1] rfl
    have hD9 := hD.sub (ws' := [(h0, .inr (0, [.ref q, .int (nI k)])), (q, .inl (cI, n, .inl f))]) [0, 1] (by decide) rfl
    refine W.widen (k := 0) (n := 0) (Nat.le_of_ble_eq_true rfl) (Nat.le_of_ble_eq_true rfl) ?_
    exact W.iret (v := (-9)) hx hb hr (fun t ht hW => ⟨⟨(-9), (), rfl, (by simp only [rget, if_pos c_1]), by rw [ht]; exact hP9, va_K.moved hW.alike hK, hD9⟩, hS.F ht⟩) hS.2.2 dX0_get_23
  · skip
    refine lv_iload_n hx hb dX0_get_4 rfl (lv_at hl 1 rfl) ?_
    refine lv_aload_n hx hb dX0_get_5 rfl (lv_at hl 0 rfl) ?_
    refine va_get (D := (dC, dI)) (ci := 0) (v := .int (nI k)) (C := RX0) (T := TX0) (N := 2) hx hb hts (fun w h => List.mem_cons_of_mem _ (List.mem_append_right _ h)) hown hK hP 0 rfl rfl 1 (by decide) (hts (.fieldLink RX0 19 "PolarTypes$Row" "size" "I") (List.mem_of_getElem? (i := 1) (by decide +kernel))) (fun _ h9 => h9) rfl dX0_get_6 ?_
    refine lv_icmp_ge (tgt := 21) hx hb dX0_get_9 (by decide) (fun c_2 => ?_) (fun c_2 => ?_)
    · skip
      refine lv_bipush (v := (-9)) hx hb dX0_get_21 (by decide) ?_
      have hP9 := hP.sub (ws' := [(h0, .inr (0, [.ref q, .int (nI k)])), (q, .inl (cI, n, .inl f))]) [0, 1] rfl
      have hD9 := hD.sub (ws' := [(h0, .inr (0, [.ref q, .int (nI k)])), (q, .inl (cI, n, .inl f))]) [0, 1] (by decide) rfl
      refine W.widen (k := 0) (n := 0) (Nat.le_of_ble_eq_true rfl) (Nat.le_of_ble_eq_true rfl) ?_
      exact W.iret (v := (-9)) hx hb hr (fun t ht hW => ⟨⟨(-9), (), rfl, (by simp only [rget, if_neg c_1, if_pos c_2]), by rw [ht]; exact hP9, va_K.moved hW.alike hK, hD9⟩, hS.F ht⟩) hS.2.2 dX0_get_23
    · skip
      refine lv_aload_n hx hb dX0_get_12 rfl (lv_at hl 0 rfl) ?_
      refine va_get (D := (dC, dI)) (ci := 0) (v := .ref q) (C := RX0) (T := TX0) (N := 2) hx hb hts (fun w h => List.mem_cons_of_mem _ (List.mem_append_right _ h)) hown hK hP 0 rfl rfl 0 (by decide) (hts (.fieldLink RX0 9 "PolarTypes$Row" "items" "[I") (List.mem_of_getElem? (i := 2) (by decide +kernel))) (fun _ h9 => h9) rfl dX0_get_13 ?_
      refine lv_iload_n hx hb dX0_get_16 rfl (lv_at hl 1 rfl) ?_
      refine va_iald hx hb hK hP 1 0 rfl rfl (rin c_1 c_2 hk (by omega)) dX0_get_17 ?_
      refine lv_goto (tgt := 23) hx hb dX0_get_18 (by decide) ?_
      have hP9 := hP.sub (ws' := [(h0, .inr (0, [.ref q, .int (nI k)])), (q, .inl (cI, n, .inl f))]) [0, 1] rfl
      have hD9 := hD.sub (ws' := [(h0, .inr (0, [.ref q, .int (nI k)])), (q, .inl (cI, n, .inl f))]) [0, 1] (by decide) rfl
      refine W.widen (k := 0) (n := 0) (Nat.le_of_ble_eq_true rfl) (Nat.le_of_ble_eq_true rfl) ?_
      exact W.iret (v := f (Int32.toNatClampNeg i)) hx hb hr (fun t ht hW => ⟨⟨f (Int32.toNatClampNeg i), (), rfl, (by simp only [rget, if_neg c_1, if_neg c_2]), by rw [ht]; exact hP9, va_K.moved hW.alike hK, hD9⟩, hS.F ht⟩) hS.2.2 dX0_get_23

set_option maxHeartbeats 4000000 in
set_option maxRecDepth 100000 in
/-- holds -/
theorem g_Row_holds (l : Launch) (dC : Nat → ClassId) (dI : Nat → Nat → Nat) (cI : ClassId) (h0 : Nat) (q : Nat) (k : Nat) (n : Nat) (f : Nat → Int32) (i : Int32) (hk : k ≤ n) (hn : n ≤ 1000000) (sz : Nat) : Met l yX0_holds wsX0_holds ({ frames := 0, cells := 0, slots := 0, locals := 0 }) (va_Pc [.ref h0, .int i] (fun U => U.heap.size = sz ∧ va_P (dC, dI) vwCl [(h0, .inr (0, [.ref q, .int (nI k)])), (q, .inl (cI, n, .inl f))] U.heap ∧ va_K (dC, dI) vwCl [(cI, .int)] U ∧ va_D (fun _ => True) [(h0, .inr (0, [.ref q, .int (nI k)])), (q, .inl (cI, n, .inl f))])) (va_Qi (fun (r : Int32) (_ : Unit) => r = rholds k i) (fun (_ : Unit) (t : State) => va_P (dC, dI) vwCl [(h0, .inr (0, [.ref q, .int (nI k)])), (q, .inl (cI, n, .inl f))] t.heap ∧ va_K (dC, dI) vwCl [(cI, .int)] t ∧ va_D (va_A [(h0, .inr (0, [.ref q, .int (nI k)])), (q, .inl (cI, n, .inl f))] sz) [(h0, .inr (0, [.ref q, .int (nI k)])), (q, .inl (cI, n, .inl f))]) (va_A [(h0, .inr (0, [.ref q, .int (nI k)])), (q, .inl (cI, n, .inl f))] sz)) 0 0 (va_A [(h0, .inr (0, [.ref q, .int (nI k)])), (q, .inl (cI, n, .inl f))] sz) := by
  refine Met.ofW (cc := cX0_holds) (maxL := 2) (ret := (some .boolean)) (by decide) rfl ?_
  intro p e s m args below meth c s₁ B hml hv
  obtain ⟨rfl, hsz, hP, hK, hD0⟩ := hv
  have hx := B.exec
  have hb := B.bytes
  have hr := B.returns
  have hts := atoms_spec (ws := wsX0_holds) B.pre
  have hown : s.vm.findClass RX0 = some m.cls := findClass_of_methodNamed B.named
  have hlocks := B.notSynchronized
  subst hsz
  have hD := hD0.self (sz := s.heap.size)
  generalize hAe : va_A [(h0, .inr (0, [.ref q, .int (nI k)])), (q, .inl (cI, n, .inl f))] s.heap.size = A at hD ⊢
  have hA : ∀ q : Nat, s.heap.size ≤ q → A q := fun q h => by rw [← hAe]; exact Or.inr h
  have hS : va_S A s.heap s.heap [] := va_S.rf
  have hP : va_P (dC, dI) vwCl [(h0, .inr (0, [.ref q, .int (nI k)])), (q, .inl (cI, n, .inl f))] s.heap := hP
  have hl := lv_entry ([.ref h0, .int i]) (n := 2) (Nat.le_of_ble_eq_true rfl)
  rw [lg_entry_eq]
  generalize (lg_sl ([.ref h0, .int i]) ++ List.replicate (2 - (lg_sl ([.ref h0, .int i])).length) Slot.unset).toArray = ls at hl ⊢
  have hl : lv_has ls 2 [(0, .ref h0), (1, .int i)] := hl
  obtain ⟨H, hHe⟩ : ∃ H : Heap, H = s.heap := ⟨_, rfl⟩
  rw [← hHe] at hP ⊢
  have hS : va_S A s.heap H [] := by rw [hHe]; exact va_S.rf
  refine lv_iload_n hx hb dX0_holds_0 rfl (lv_at hl 1 rfl) ?_
  refine lv_if_lt (tgt := 16) hx hb dX0_holds_1 (by decide) (fun c_1 => ?_) (fun c_1 => ?_)
  · skip
    refine lv_iconst (v := 0) hx hb dX0_holds_16 (by decide) ?_
    have hP9 := hP.sub (ws' := [(h0, .inr (0, [.ref q, .int (nI k)])), (q, .inl (cI, n, .inl f))]) [0, 1] rfl
    have hD9 := hD.sub (ws' := [(h0, .inr (0, [.ref q, .int (nI k)])), (q, .inl (cI, n, .inl f))]) [0, 1] (by decide) rfl
    refine W.widen (k := 0) (n := 0) (Nat.le_of_ble_eq_true rfl) (Nat.le_of_ble_eq_true rfl) ?_
    exact W.zret (v := 0) hx hb hr rfl (fun t ht hW => ⟨⟨0, (), rfl, (by simp only [rholds, if_pos c_1]), by rw [ht]; exact hP9, va_K.moved hW.alike hK, hD9⟩, hS.F ht⟩) hS.2.2 dX0_holds_17
  · skip
    refine lv_iload_n hx hb dX0_holds_4 rfl (lv_at hl 1 rfl) ?_
    refine lv_aload_n hx hb dX0_holds_5 rfl (lv_at hl 0 rfl) ?_
    refine va_get (D := (dC, dI)) (ci := 0) (v := .int (nI k)) (C := RX0) (T := TX0) (N := 2) hx hb hts (fun w h => List.mem_cons_of_mem _ (List.mem_append_right _ h)) hown hK hP 0 rfl rfl 1 (by decide) (hts (.fieldLink RX0 19 "PolarTypes$Row" "size" "I") (List.mem_of_getElem? (i := 1) (by decide +kernel))) (fun _ h9 => h9) rfl dX0_holds_6 ?_
    refine lv_icmp_ge (tgt := 16) hx hb dX0_holds_9 (by decide) (fun c_2 => ?_) (fun c_2 => ?_)
    · skip
      refine lv_iconst (v := 0) hx hb dX0_holds_16 (by decide) ?_
      have hP9 := hP.sub (ws' := [(h0, .inr (0, [.ref q, .int (nI k)])), (q, .inl (cI, n, .inl f))]) [0, 1] rfl
      have hD9 := hD.sub (ws' := [(h0, .inr (0, [.ref q, .int (nI k)])), (q, .inl (cI, n, .inl f))]) [0, 1] (by decide) rfl
      refine W.widen (k := 0) (n := 0) (Nat.le_of_ble_eq_true rfl) (Nat.le_of_ble_eq_true rfl) ?_
      exact W.zret (v := 0) hx hb hr rfl (fun t ht hW => ⟨⟨0, (), rfl, (by simp only [rholds, if_neg c_1, if_pos c_2]), by rw [ht]; exact hP9, va_K.moved hW.alike hK, hD9⟩, hS.F ht⟩) hS.2.2 dX0_holds_17
    · skip
      refine lv_iconst (v := 1) hx hb dX0_holds_12 (by decide) ?_
      refine lv_goto (tgt := 17) hx hb dX0_holds_13 (by decide) ?_
      have hP9 := hP.sub (ws' := [(h0, .inr (0, [.ref q, .int (nI k)])), (q, .inl (cI, n, .inl f))]) [0, 1] rfl
      have hD9 := hD.sub (ws' := [(h0, .inr (0, [.ref q, .int (nI k)])), (q, .inl (cI, n, .inl f))]) [0, 1] (by decide) rfl
      refine W.widen (k := 0) (n := 0) (Nat.le_of_ble_eq_true rfl) (Nat.le_of_ble_eq_true rfl) ?_
      exact W.zret (v := 1) hx hb hr rfl (fun t ht hW => ⟨⟨1, (), rfl, (by simp only [rholds, if_neg c_1, if_neg c_2]), by rw [ht]; exact hP9, va_K.moved hW.alike hK, hD9⟩, hS.F ht⟩) hS.2.2 dX0_holds_17

set_option maxHeartbeats 4000000 in
set_option maxRecDepth 100000 in
/-- set: the place, if it is one -/
theorem g_Row_set (l : Launch) (dC : Nat → ClassId) (dI : Nat → Nat → Nat) (cI : ClassId) (h0 : Nat) (q : Nat) (k : Nat) (n : Nat) (f : Nat → Int32) (i : Int32) (x : Int32) (hk : k ≤ n) (hn : n ≤ 1000000) (sz : Nat) : Met l yX0_set wsX0_set ({ frames := 0, cells := 0, slots := 0, locals := 0 }) (va_Pc [.ref h0, .int i, .int x] (fun U => U.heap.size = sz ∧ va_P (dC, dI) vwCl [(h0, .inr (0, [.ref q, .int (nI k)])), (q, .inl (cI, n, .inl f))] U.heap ∧ va_K (dC, dI) vwCl [(cI, .int)] U ∧ va_D (fun _ => True) [(h0, .inr (0, [.ref q, .int (nI k)])), (q, .inl (cI, n, .inl f))])) (va_Qv (fun (_ : Unit) => True) (fun (_ : Unit) (t : State) => va_P (dC, dI) vwCl [(h0, .inr (0, [.ref q, .int (nI k)])), (q, .inl (cI, n, .inl (rset f k i x)))] t.heap ∧ va_K (dC, dI) vwCl [(cI, .int)] t ∧ va_D (va_A [(h0, .inr (0, [.ref q, .int (nI k)])), (q, .inl (cI, n, .inl f))] sz) [(h0, .inr (0, [.ref q, .int (nI k)])), (q, .inl (cI, n, .inl (rset f k i x)))]) (va_A [(h0, .inr (0, [.ref q, .int (nI k)])), (q, .inl (cI, n, .inl f))] sz)) 0 0 (va_A [(h0, .inr (0, [.ref q, .int (nI k)])), (q, .inl (cI, n, .inl f))] sz) := by
  refine Met.ofW (cc := cX0_set) (maxL := 3) (ret := none) (by decide) rfl ?_
  intro p e s m args below meth c s₁ B hml hv
  obtain ⟨rfl, hsz, hP, hK, hD0⟩ := hv
  have hx := B.exec
  have hb := B.bytes
  have hr := B.returns
  have hts := atoms_spec (ws := wsX0_set) B.pre
  have hown : s.vm.findClass RX0 = some m.cls := findClass_of_methodNamed B.named
  have hlocks := B.notSynchronized
  subst hsz
  have hD := hD0.self (sz := s.heap.size)
  generalize hAe : va_A [(h0, .inr (0, [.ref q, .int (nI k)])), (q, .inl (cI, n, .inl f))] s.heap.size = A at hD ⊢
  have hA : ∀ q : Nat, s.heap.size ≤ q → A q := fun q h => by rw [← hAe]; exact Or.inr h
  have hS : va_S A s.heap s.heap [] := va_S.rf
  have hP : va_P (dC, dI) vwCl [(h0, .inr (0, [.ref q, .int (nI k)])), (q, .inl (cI, n, .inl f))] s.heap := hP
  have hl := lv_entry ([.ref h0, .int i, .int x]) (n := 3) (Nat.le_of_ble_eq_true rfl)
  rw [lg_entry_eq]
  generalize (lg_sl ([.ref h0, .int i, .int x]) ++ List.replicate (3 - (lg_sl ([.ref h0, .int i, .int x])).length) Slot.unset).toArray = ls at hl ⊢
  have hl : lv_has ls 3 [(0, .ref h0), (1, .int i), (2, .int x)] := hl
  obtain ⟨H, hHe⟩ : ∃ H : Heap, H = s.heap := ⟨_, rfl⟩
  rw [← hHe] at hP ⊢
  have hS : va_S A s.heap H [] := by rw [hHe]; exact va_S.rf
  refine lv_iload_n hx hb dX0_set_0 rfl (lv_at hl 1 rfl) ?_
  refine lv_if_lt (tgt := 19) hx hb dX0_set_1 (by decide) (fun c_1 => ?_) (fun c_1 => ?_)
  · skip
    have hP9 := hP.sub (ws' := [(h0, .inr (0, [.ref q, .int (nI k)])), (q, .inl (cI, n, .inl f))]) [0, 1] rfl
    have hD9 := hD.sub (ws' := [(h0, .inr (0, [.ref q, .int (nI k)])), (q, .inl (cI, n, .inl f))]) [0, 1] (by decide) rfl
    have eR : rset f k i x = f := by simp only [rset, if_pos c_1]
    rw [show va_P (dC, dI) vwCl [(h0, .inr (0, [.ref q, .int (nI k)])), (q, .inl (cI, n, .inl f))] = va_P (dC, dI) vwCl [(h0, .inr (0, [.ref q, .int (nI k)])), (q, .inl (cI, n, .inl (rset f k i x)))] by rw [eR]] at hP9
    rw [show va_D A [(h0, .inr (0, [.ref q, .int (nI k)])), (q, .inl (cI, n, .inl f))] = va_D A [(h0, .inr (0, [.ref q, .int (nI k)])), (q, .inl (cI, n, .inl (rset f k i x)))] by rw [eR]] at hD9
    refine W.widen (k := 0) (n := 0) (Nat.le_of_ble_eq_true rfl) (Nat.le_of_ble_eq_true rfl) ?_
    exact W.vret hx hb hr (fun t ht hW => ⟨⟨(), rfl, trivial, by rw [ht]; exact hP9, va_K.moved hW.alike hK, hD9⟩, hS.F ht⟩) hS.2.2 dX0_set_19
  · skip
    refine lv_iload_n hx hb dX0_set_4 rfl (lv_at hl 1 rfl) ?_
    refine lv_aload_n hx hb dX0_set_5 rfl (lv_at hl 0 rfl) ?_
    refine va_get (D := (dC, dI)) (ci := 0) (v := .int (nI k)) (C := RX0) (T := TX0) (N := 2) hx hb hts (fun w h => List.mem_cons_of_mem _ (List.mem_append_right _ h)) hown hK hP 0 rfl rfl 1 (by decide) (hts (.fieldLink RX0 19 "PolarTypes$Row" "size" "I") (List.mem_of_getElem? (i := 1) (by decide +kernel))) (fun _ h9 => h9) rfl dX0_set_6 ?_
    refine lv_icmp_ge (tgt := 19) hx hb dX0_set_9 (by decide) (fun c_2 => ?_) (fun c_2 => ?_)
    · skip
      have hP9 := hP.sub (ws' := [(h0, .inr (0, [.ref q, .int (nI k)])), (q, .inl (cI, n, .inl f))]) [0, 1] rfl
      have hD9 := hD.sub (ws' := [(h0, .inr (0, [.ref q, .int (nI k)])), (q, .inl (cI, n, .inl f))]) [0, 1] (by decide) rfl
      have eR : rset f k i x = f := by simp only [rset, if_neg c_1, if_pos c_2]
      rw [show va_P (dC, dI) vwCl [(h0, .inr (0, [.ref q, .int (nI k)])), (q, .inl (cI, n, .inl f))] = va_P (dC, dI) vwCl [(h0, .inr (0, [.ref q, .int (nI k)])), (q, .inl (cI, n, .inl (rset f k i x)))] by rw [eR]] at hP9
      rw [show va_D A [(h0, .inr (0, [.ref q, .int (nI k)])), (q, .inl (cI, n, .inl f))] = va_D A [(h0, .inr (0, [.ref q, .int (nI k)])), (q, .inl (cI, n, .inl (rset f k i x)))] by rw [eR]] at hD9
      refine W.widen (k := 0) (n := 0) (Nat.le_of_ble_eq_true rfl) (Nat.le_of_ble_eq_true rfl) ?_
      exact W.vret hx hb hr (fun t ht hW => ⟨⟨(), rfl, trivial, by rw [ht]; exact hP9, va_K.moved hW.alike hK, hD9⟩, hS.F ht⟩) hS.2.2 dX0_set_19
    · skip
      refine lv_aload_n hx hb dX0_set_12 rfl (lv_at hl 0 rfl) ?_
      refine va_get (D := (dC, dI)) (ci := 0) (v := .ref q) (C := RX0) (T := TX0) (N := 2) hx hb hts (fun w h => List.mem_cons_of_mem _ (List.mem_append_right _ h)) hown hK hP 0 rfl rfl 0 (by decide) (hts (.fieldLink RX0 9 "PolarTypes$Row" "items" "[I") (List.mem_of_getElem? (i := 2) (by decide +kernel))) (fun _ h9 => h9) rfl dX0_set_13 ?_
      refine lv_iload_n hx hb dX0_set_16 rfl (lv_at hl 1 rfl) ?_
      refine lv_iload_n hx hb dX0_set_17 rfl (lv_at hl 2 rfl) ?_
      refine va_iast hx hb hK hP hD hS 1 0 rfl rfl (rin c_1 c_2 hk (by omega)) dX0_set_18 (fun H locs hP hD hS => ?_)
      obtain ⟨g_3, eg_3⟩ : ∃ y : Nat → Int32, y = upd f (Int32.toNatClampNeg i) x := ⟨_, rfl⟩
      rw [← eg_3] at hP hD
      have hP : va_P (dC, dI) vwCl [(h0, .inr (0, [.ref q, .int (nI k)])), (q, .inl (cI, n, .inl g_3))] H := hP
      have hD : va_D A [(h0, .inr (0, [.ref q, .int (nI k)])), (q, .inl (cI, n, .inl g_3))] := hD
      have hP9 := hP.sub (ws' := [(h0, .inr (0, [.ref q, .int (nI k)])), (q, .inl (cI, n, .inl g_3))]) [0, 1] rfl
      have hD9 := hD.sub (ws' := [(h0, .inr (0, [.ref q, .int (nI k)])), (q, .inl (cI, n, .inl g_3))]) [0, 1] (by decide) rfl
      have eR : rset f k i x = g_3 := by simp only [rset, if_neg c_1, if_neg c_2, eg_3]
      rw [← eR] at hP9 hD9
      refine W.widen (k := 0) (n := 0) (Nat.le_of_ble_eq_true rfl) (Nat.le_of_ble_eq_true rfl) ?_
      exact W.vret hx hb hr (fun t ht hW => ⟨⟨(), rfl, trivial, by rw [ht]; exact hP9, va_K.moved hW.alike hK, hD9⟩, hS.F ht⟩) hS.2.2 dX0_set_19

set_option maxHeartbeats 4000000 in
set_option maxRecDepth 100000 in
/-- cutTo -/
theorem g_Row_cutTo (l : Launch) (dC : Nat → ClassId) (dI : Nat → Nat → Nat) (cI : ClassId) (h0 : Nat) (q : Nat) (k : Nat) (n : Nat) (f : Nat → Int32) (i : Int32) (hk : k ≤ n) (hn : n ≤ 1000000) (sz : Nat) : Met l yX0_cutTo wsX0_cutTo ({ frames := 0, cells := 0, slots := 0, locals := 0 }) (va_Pc [.ref h0, .int i] (fun U => U.heap.size = sz ∧ va_P (dC, dI) vwCl [(h0, .inr (0, [.ref q, .int (nI k)])), (q, .inl (cI, n, .inl f))] U.heap ∧ va_K (dC, dI) vwCl [(cI, .int)] U ∧ va_D (fun _ => True) [(h0, .inr (0, [.ref q, .int (nI k)])), (q, .inl (cI, n, .inl f))])) (va_Qv (fun (_ : Unit) => True) (fun (_ : Unit) (t : State) => va_P (dC, dI) vwCl [(h0, .inr (0, [.ref q, .int (nI (rcut k i))])), (q, .inl (cI, n, .inl f))] t.heap ∧ va_K (dC, dI) vwCl [(cI, .int)] t ∧ va_D (va_A [(h0, .inr (0, [.ref q, .int (nI k)])), (q, .inl (cI, n, .inl f))] sz) [(h0, .inr (0, [.ref q, .int (nI (rcut k i))])), (q, .inl (cI, n, .inl f))]) (va_A [(h0, .inr (0, [.ref q, .int (nI k)])), (q, .inl (cI, n, .inl f))] sz)) 0 0 (va_A [(h0, .inr (0, [.ref q, .int (nI k)])), (q, .inl (cI, n, .inl f))] sz) := by
  refine Met.ofW (cc := cX0_cutTo) (maxL := 2) (ret := none) (by decide) rfl ?_
  intro p e s m args below meth c s₁ B hml hv
  obtain ⟨rfl, hsz, hP, hK, hD0⟩ := hv
  have hx := B.exec
  have hb := B.bytes
  have hr := B.returns
  have hts := atoms_spec (ws := wsX0_cutTo) B.pre
  have hown : s.vm.findClass RX0 = some m.cls := findClass_of_methodNamed B.named
  have hlocks := B.notSynchronized
  subst hsz
  have hD := hD0.self (sz := s.heap.size)
  generalize hAe : va_A [(h0, .inr (0, [.ref q, .int (nI k)])), (q, .inl (cI, n, .inl f))] s.heap.size = A at hD ⊢
  have hA : ∀ q : Nat, s.heap.size ≤ q → A q := fun q h => by rw [← hAe]; exact Or.inr h
  have hS : va_S A s.heap s.heap [] := va_S.rf
  have hP : va_P (dC, dI) vwCl [(h0, .inr (0, [.ref q, .int (nI k)])), (q, .inl (cI, n, .inl f))] s.heap := hP
  have hl := lv_entry ([.ref h0, .int i]) (n := 2) (Nat.le_of_ble_eq_true rfl)
  rw [lg_entry_eq]
  generalize (lg_sl ([.ref h0, .int i]) ++ List.replicate (2 - (lg_sl ([.ref h0, .int i])).length) Slot.unset).toArray = ls at hl ⊢
  have hl : lv_has ls 2 [(0, .ref h0), (1, .int i)] := hl
  obtain ⟨H, hHe⟩ : ∃ H : Heap, H = s.heap := ⟨_, rfl⟩
  rw [← hHe] at hP ⊢
  have hS : va_S A s.heap H [] := by rw [hHe]; exact va_S.rf
  refine lv_iload_n hx hb dX0_cutTo_0 rfl (lv_at hl 1 rfl) ?_
  refine lv_if_lt (tgt := 17) hx hb dX0_cutTo_1 (by decide) (fun c_1 => ?_) (fun c_1 => ?_)
  · skip
    have hP9 := hP.sub (ws' := [(h0, .inr (0, [.ref q, .int (nI k)])), (q, .inl (cI, n, .inl f))]) [0, 1] rfl
    have hD9 := hD.sub (ws' := [(h0, .inr (0, [.ref q, .int (nI k)])), (q, .inl (cI, n, .inl f))]) [0, 1] (by decide) rfl
    have eR : rcut k i = k := by simp only [rcut, if_pos c_1]
    rw [show va_P (dC, dI) vwCl [(h0, .inr (0, [.ref q, .int (nI k)])), (q, .inl (cI, n, .inl f))] = va_P (dC, dI) vwCl [(h0, .inr (0, [.ref q, .int (nI (rcut k i))])), (q, .inl (cI, n, .inl f))] by rw [eR]] at hP9
    rw [show va_D A [(h0, .inr (0, [.ref q, .int (nI k)])), (q, .inl (cI, n, .inl f))] = va_D A [(h0, .inr (0, [.ref q, .int (nI (rcut k i))])), (q, .inl (cI, n, .inl f))] by rw [eR]] at hD9
    refine W.widen (k := 0) (n := 0) (Nat.le_of_ble_eq_true rfl) (Nat.le_of_ble_eq_true rfl) ?_
    exact W.vret hx hb hr (fun t ht hW => ⟨⟨(), rfl, trivial, by rw [ht]; exact hP9, va_K.moved hW.alike hK, hD9⟩, hS.F ht⟩) hS.2.2 dX0_cutTo_17
  · skip
    refine lv_iload_n hx hb dX0_cutTo_4 rfl (lv_at hl 1 rfl) ?_
    refine lv_aload_n hx hb dX0_cutTo_5 rfl (lv_at hl 0 rfl) ?_
    refine va_get (D := (dC, dI)) (ci := 0) (v := .int (nI k)) (C := RX0) (T := TX0) (N := 2) hx hb hts (fun w h => List.mem_cons_of_mem _ (List.mem_append_right _ h)) hown hK hP 0 rfl rfl 1 (by decide) (hts (.fieldLink RX0 19 "PolarTypes$Row" "size" "I") (List.mem_of_getElem? (i := 1) (by decide +kernel))) (fun _ h9 => h9) rfl dX0_cutTo_6 ?_
    refine lv_icmp_ge (tgt := 17) hx hb dX0_cutTo_9 (by decide) (fun c_2 => ?_) (fun c_2 => ?_)
    · skip
      have hP9 := hP.sub (ws' := [(h0, .inr (0, [.ref q, .int (nI k)])), (q, .inl (cI, n, .inl f))]) [0, 1] rfl
      have hD9 := hD.sub (ws' := [(h0, .inr (0, [.ref q, .int (nI k)])), (q, .inl (cI, n, .inl f))]) [0, 1] (by decide) rfl
      have eR : rcut k i = k := by simp only [rcut, if_neg c_1, if_pos c_2]
      rw [show va_P (dC, dI) vwCl [(h0, .inr (0, [.ref q, .int (nI k)])), (q, .inl (cI, n, .inl f))] = va_P (dC, dI) vwCl [(h0, .inr (0, [.ref q, .int (nI (rcut k i))])), (q, .inl (cI, n, .inl f))] by rw [eR]] at hP9
      rw [show va_D A [(h0, .inr (0, [.ref q, .int (nI k)])), (q, .inl (cI, n, .inl f))] = va_D A [(h0, .inr (0, [.ref q, .int (nI (rcut k i))])), (q, .inl (cI, n, .inl f))] by rw [eR]] at hD9
      refine W.widen (k := 0) (n := 0) (Nat.le_of_ble_eq_true rfl) (Nat.le_of_ble_eq_true rfl) ?_
      exact W.vret hx hb hr (fun t ht hW => ⟨⟨(), rfl, trivial, by rw [ht]; exact hP9, va_K.moved hW.alike hK, hD9⟩, hS.F ht⟩) hS.2.2 dX0_cutTo_17
    · skip
      refine lv_aload_n hx hb dX0_cutTo_12 rfl (lv_at hl 0 rfl) ?_
      refine lv_iload_n hx hb dX0_cutTo_13 rfl (lv_at hl 1 rfl) ?_
      refine va_put (D := (dC, dI)) (ci := 0) (v := .int i) (ty := .int) (C := RX0) (T := TX0) (N := 2) hx hb hts (fun w h => List.mem_cons_of_mem _ (List.mem_append_right _ h)) tyX0 tyX0_ok nmX0 hown hK hP hD hS 0 rfl rfl 1 (by decide) (hts (.fieldLink RX0 19 "PolarTypes$Row" "size" "I") (List.mem_of_getElem? (i := 1) (by decide +kernel))) (fun _ h9 => h9) rfl (by decide +kernel) rfl rfl (Nat.le_of_ble_eq_true rfl) dX0_cutTo_14 (fun H locs hP hD hS => ?_)
      have hP : va_P (dC, dI) vwCl [(h0, .inr (0, [.ref q, .int i])), (q, .inl (cI, n, .inl f))] H := hP
      have hD : va_D A [(h0, .inr (0, [.ref q, .int i])), (q, .inl (cI, n, .inl f))] := hD
      have hP9 := hP.sub (ws' := [(h0, .inr (0, [.ref q, .int i])), (q, .inl (cI, n, .inl f))]) [0, 1] rfl
      have hD9 := hD.sub (ws' := [(h0, .inr (0, [.ref q, .int i])), (q, .inl (cI, n, .inl f))]) [0, 1] (by decide) rfl
      rw [rcut_nI c_1 c_2 (by omega : k < 2 ^ 31)] at hP9 hD9
      refine W.widen (k := 0) (n := 0) (Nat.le_of_ble_eq_true rfl) (Nat.le_of_ble_eq_true rfl) ?_
      exact W.vret hx hb hr (fun t ht hW => ⟨⟨(), rfl, trivial, by rw [ht]; exact hP9, va_K.moved hW.alike hK, hD9⟩, hS.F ht⟩) hS.2.2 dX0_cutTo_17

