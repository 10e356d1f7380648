theorem dX3_isNode_0 : decode cX3_isNode 0 = .ok (.aload_n 0, 1) := by decide +kernel
theorem dX3_isNode_1 : decode cX3_isNode 1 = .ok (.getfield 12, 3) := by decide +kernel
theorem dX3_isNode_4 : decode cX3_isNode 4 = .ok (.iload_n 1, 1) := by decide +kernel
set_option maxRecDepth 20000 in
theorem ggX3_isNode_X0_holds : GoodIn wsX3_isNode wsX0_holds := goodIn_r _ [6, 7, 14, 15] (by decide +kernel) (by decide +kernel)
set_option maxRecDepth 20000 in
theorem gX3_isNode_X0_holds : GoodIn wsX3_isNode (wsV RX3 51 RX0 yX0_holds wsX0_holds) := goodIn_app (goodIn_of _ (by decide +kernel)) ggX3_isNode_X0_holds
theorem dX3_isNode_5 : decode cX3_isNode 5 = .ok (.invokevirtual 51, 3) := by decide +kernel
theorem dX3_isNode_8 : decode cX3_isNode 8 = .ok (.ireturn, 1) := by decide +kernel
theorem dX3_isFree_0 : decode cX3_isFree 0 = .ok (.aload_n 0, 1) := by decide +kernel
theorem dX3_isFree_1 : decode cX3_isFree 1 = .ok (.iload_n 1, 1) := by decide +kernel
set_option maxRecDepth 20000 in
theorem ggX3_isFree_X3_isNode : GoodIn wsX3_isFree wsX3_isNode := goodIn_r _ [6, 7, 8, 9, 10, 11, 12, 13, 19, 20, 21, 22, 23, 24, 25, 26] (by decide +kernel) (by decide +kernel)
set_option maxRecDepth 20000 in
theorem gX3_isFree_X3_isNode : GoodIn wsX3_isFree (wsV RX3 54 RX3 yX3_isNode wsX3_isNode) := goodIn_app (goodIn_of _ (by decide +kernel)) ggX3_isFree_X3_isNode
theorem dX3_isFree_2 : decode cX3_isFree 2 = .ok (.invokevirtual 54, 3) := by decide +kernel
theorem dX3_isFree_5 : decode cX3_isFree 5 = .ok (.ifCond .eq 20, 3) := by decide +kernel
theorem dX3_isFree_25 : decode cX3_isFree 25 = .ok (.iconst 0, 1) := by decide +kernel
theorem dX3_isFree_26 : decode cX3_isFree 26 = .ok (.ireturn, 1) := by decide +kernel
theorem dX3_isFull_0 : decode cX3_isFull 0 = .ok (.aload_n 0, 1) := by decide +kernel
theorem dX3_isFull_1 : decode cX3_isFull 1 = .ok (.getfield 12, 3) := by decide +kernel
theorem dX3_isFull_4 : decode cX3_isFull 4 = .ok (.getfield 47, 3) := by decide +kernel
theorem dX3_isFull_7 : decode cX3_isFull 7 = .ok (.bipush 120, 2) := by decide +kernel
theorem dX3_isFull_9 : decode cX3_isFull 9 = .ok (.if_icmp .lt 7, 3) := by decide +kernel
theorem dX3_isFull_16 : decode cX3_isFull 16 = .ok (.iconst 0, 1) := by decide +kernel
theorem dX3_isFull_17 : decode cX3_isFull 17 = .ok (.ireturn, 1) := by decide +kernel
theorem dX3_size_0 : decode cX3_size 0 = .ok (.aload_n 0, 1) := by decide +kernel
theorem dX3_size_1 : decode cX3_size 1 = .ok (.getfield 12, 3) := by decide +kernel
theorem dX3_size_4 : decode cX3_size 4 = .ok (.getfield 47, 3) := by decide +kernel
theorem dX3_size_7 : decode cX3_size 7 = .ok (.ireturn, 1) := by decide +kernel
theorem dX3_freeCount_0 : decode cX3_freeCount 0 = .ok (.iconst 0, 1) := by decide +kernel
theorem dX3_freeCount_1 : decode cX3_freeCount 1 = .ok (.istore_n 1, 1) := by decide +kernel
theorem dX3_freeCount_2 : decode cX3_freeCount 2 = .ok (.aload_n 0, 1) := by decide +kernel
set_option maxRecDepth 20000 in
theorem ggX3_freeCount_X3_size : GoodIn wsX3_freeCount wsX3_size := goodIn_r _ [5, 6, 7, 28, 29, 30, 31, 32, 33, 34, 35] (by decide +kernel) (by decide +kernel)
set_option maxRecDepth 20000 in
theorem gX3_freeCount_X3_size : GoodIn wsX3_freeCount (wsV RX3 97 RX3 yX3_size wsX3_size) := goodIn_app (goodIn_of _ (by decide +kernel)) ggX3_freeCount_X3_size
theorem dX3_freeCount_3 : decode cX3_freeCount 3 = .ok (.invokevirtual 97, 3) := by decide +kernel
theorem dX3_freeCount_6 : decode cX3_freeCount 6 = .ok (.istore_n 2, 1) := by decide +kernel
theorem dX3_freeCount_7 : decode cX3_freeCount 7 = .ok (.iconst 0, 1) := by decide +kernel
theorem dX3_freeCount_8 : decode cX3_freeCount 8 = .ok (.istore_n 3, 1) := by decide +kernel
theorem dX3_freeCount_9 : decode cX3_freeCount 9 = .ok (.iload_n 3, 1) := by decide +kernel
theorem dX3_freeCount_10 : decode cX3_freeCount 10 = .ok (.iload_n 2, 1) := by decide +kernel
theorem dX3_freeCount_11 : decode cX3_freeCount 11 = .ok (.if_icmp .ge 20, 3) := by decide +kernel
theorem dX3_freeCount_31 : decode cX3_freeCount 31 = .ok (.iload_n 1, 1) := by decide +kernel
theorem dX3_freeCount_32 : decode cX3_freeCount 32 = .ok (.ireturn, 1) := by decide +kernel
theorem dX3_canBeParts_0 : decode cX3_canBeParts 0 = .ok (.iload_n 1, 1) := by decide +kernel
theorem dX3_canBeParts_1 : decode cX3_canBeParts 1 = .ok (.iconst 1, 1) := by decide +kernel
theorem dX3_canBeParts_2 : decode cX3_canBeParts 2 = .ok (.if_icmp .lt 13, 3) := by decide +kernel
theorem dX3_canBeParts_15 : decode cX3_canBeParts 15 = .ok (.iload_n 1, 1) := by decide +kernel
theorem dX3_canBeParts_16 : decode cX3_canBeParts 16 = .ok (.iconst 2, 1) := by decide +kernel
theorem dX3_canBeParts_17 : decode cX3_canBeParts 17 = .ok (.if_icmp .lt 18, 3) := by decide +kernel
theorem dX3_canBeParts_35 : decode cX3_canBeParts 35 = .ok (.iload_n 1, 1) := by decide +kernel
theorem dX3_canBeParts_36 : decode cX3_canBeParts 36 = .ok (.iconst 3, 1) := by decide +kernel
theorem dX3_canBeParts_37 : decode cX3_canBeParts 37 = .ok (.if_icmp .lt 24, 3) := by decide +kernel
theorem dX3_canBeParts_61 : decode cX3_canBeParts 61 = .ok (.iconst 1, 1) := by decide +kernel
theorem dX3_canBeParts_62 : decode cX3_canBeParts 62 = .ok (.goto 4, 3) := by decide +kernel
theorem dX3_canBeParts_66 : decode cX3_canBeParts 66 = .ok (.ireturn, 1) := by decide +kernel
theorem dX3_canBeParts_5 : decode cX3_canBeParts 5 = .ok (.aload_n 0, 1) := by decide +kernel
theorem dX3_canBeParts_6 : decode cX3_canBeParts 6 = .ok (.iload_n 2, 1) := by decide +kernel
set_option maxRecDepth 20000 in
theorem ggX3_canBeParts_X3_isFree : GoodIn wsX3_canBeParts wsX3_isFree := goodIn_r _ [5, 6, 7, 8, 9, 4, 10, 11, 12, 13, 14, 15, 16, 17, 18, 19, 20, 21, 22, 23, 24, 25, 26, 27, 28, 29, 30] (by decide +kernel) (by decide +kernel)
set_option maxRecDepth 20000 in
theorem gX3_canBeParts_X3_isFree : GoodIn wsX3_canBeParts (wsV RX3 61 RX3 yX3_isFree wsX3_isFree) := goodIn_app (goodIn_of _ (by decide +kernel)) ggX3_canBeParts_X3_isFree
theorem dX3_canBeParts_7 : decode cX3_canBeParts 7 = .ok (.invokevirtual 61, 3) := by decide +kernel
theorem dX3_canBeParts_10 : decode cX3_canBeParts 10 = .ok (.ifCond .ne 5, 3) := by decide +kernel
theorem dX3_canBeParts_13 : decode cX3_canBeParts 13 = .ok (.iconst 0, 1) := by decide +kernel
theorem dX3_canBeParts_14 : decode cX3_canBeParts 14 = .ok (.ireturn, 1) := by decide +kernel
set_option maxHeartbeats 4000000 in
set_option maxRecDepth 100000 in
/-- isNode, of an empty tree -/
theorem c_isNode0 (l : Launch) (dC : Nat → ClassId) (dI : Nat → Nat → Nat) (cI : ClassId) (h0 : Nat) (td : Nat → Nat) (q : Nat) (n : Int32) (sz : Nat) : Met l yX3_isNode wsX3_isNode ({ frames := 1, cells := 0, slots := 0, locals := 21 }) (va_Pc [.ref h0, .int n] (fun U => U.heap.size = sz ∧ va_P (dC, dI) vwCl [(h0, .inr (3, [.ref (td 0), .ref (td 1), .ref (td 2), .ref (td 3), .ref (td 4), .ref (td 5)])), (td 0, .inr (0, [.ref q, .int (nI 0)]))] U.heap ∧ va_K (dC, dI) vwCl [(cI, .int)] U ∧ va_D (fun _ => True) [(h0, .inr (3, [.ref (td 0), .ref (td 1), .ref (td 2), .ref (td 3), .ref (td 4), .ref (td 5)])), (td 0, .inr (0, [.ref q, .int (nI 0)]))])) (va_Qi (fun (r : Int32) (_ : Unit) => r = 0) (fun (_ : Unit) (t : State) => va_P (dC, dI) vwCl [(h0, .inr (3, [.ref (td 0), .ref (td 1), .ref (td 2), .ref (td 3), .ref (td 4), .ref (td 5)])), (td 0, .inr (0, [.ref q, .int (nI 0)]))] t.heap ∧ va_K (dC, dI) vwCl [(cI, .int)] t ∧ va_D (va_A [(h0, .inr (3, [.ref (td 0), .ref (td 1), .ref (td 2), .ref (td 3), .ref (td 4), .ref (td 5)])), (td 0, .inr (0, [.ref q, .int (nI 0)]))] sz) [(h0, .inr (3, [.ref (td 0), .ref (td 1), .ref (td 2), .ref (td 3), .ref (td 4), .ref (td 5)])), (td 0, .inr (0, [.ref q, .int (nI 0)]))]) (va_A [(h0, .inr (3, [.ref (td 0), .ref (td 1), .ref (td 2), .ref (td 3), .ref (td 4), .ref (td 5)])), (td 0, .inr (0, [.ref q, .int (nI 0)]))] sz)) 0 0 (va_A [(h0, .inr (3, [.ref (td 0), .ref (td 1), .ref (td 2), .ref (td 3), .ref (td 4), .ref (td 5)])), (td 0, .inr (0, [.ref q, .int (nI 0)]))] sz) := by
  refine Met.ofW (cc := cX3_isNode) (maxL := 2) (ret := (some .boolean)) (by decide) rfl ?_
  intro p e s m args below meth c s₁ B hml hv
  obtain ⟨rfl, hsz, hP, hK, hD0⟩ := hv
  have hx := B.exec
  have hb := B.bytes
  have hr := B.returns
  have hts := atoms_spec (ws := wsX3_isNode) B.pre
  have hown : s.vm.findClass RX3 = some m.cls := findClass_of_methodNamed B.named
  have hlocks := B.notSynchronized
  subst hsz
  have hD := hD0.self (sz := s.heap.size)
  generalize hAe : va_A [(h0, .inr (3, [.ref (td 0), .ref (td 1), .ref (td 2), .ref (td 3), .ref (td 4), .ref (td 5)])), (td 0, .inr (0, [.ref q, .int (nI 0)]))] s.heap.size = A at hD ⊢
  have hA : ∀ q : Nat, s.heap.size ≤ q → A q := fun q h => by rw [← hAe]; exact Or.inr h
  have hS : va_S A s.heap s.heap [] := va_S.rf
  have hP : va_P (dC, dI) vwCl [(h0, .inr (3, [.ref (td 0), .ref (td 1), .ref (td 2), .ref (td 3), .ref (td 4), .ref (td 5)])), (td 0, .inr (0, [.ref q, .int (nI 0)]))] s.heap := hP
  have hl := lv_entry ([.ref h0, .int n]) (n := 2) (Nat.le_of_ble_eq_true rfl)
  rw [lg_entry_eq]
  generalize (lg_sl ([.ref h0, .int n]) ++ List.replicate (2 - (lg_sl ([.ref h0, .int n])).length) Slot.unset).toArray = ls at hl ⊢
  have hl : lv_has ls 2 [(0, .ref h0), (1, .int n)] := hl
  obtain ⟨H, hHe⟩ : ∃ H : Heap, H = s.heap := ⟨_, rfl⟩
  rw [← hHe] at hP ⊢
  have hS : va_S A s.heap H [] := by rw [hHe]; exact va_S.rf
  refine lv_aload_n hx hb dX3_isNode_0 rfl (lv_at hl 0 rfl) ?_
  refine va_get (D := (dC, dI)) (ci := 3) (v := .ref (td 0)) (C := RX3) (T := TX3) (N := 6) hx hb hts (fun w h => List.mem_cons_of_mem _ (List.mem_append_left _ (List.mem_append_right _ h))) hown hK hP 0 rfl rfl 0 (by decide) (hts (.fieldLink RX3 12 "PolarTypes$Tree" "kinds" "LPolarTypes$Row;") (List.mem_of_getElem? (i := 1) (by decide +kernel))) (fun _ h9 => h9) rfl dX3_isNode_1 ?_
  refine lv_iload_n hx hb dX3_isNode_4 rfl (lv_at hl 1 rfl) ?_
  have hPc := hP.sub (ws' := [(td 0, .inr (0, [.ref q, .int (nI 0)]))]) [1] rfl
  have hDc := hD.sub (ws' := [(td 0, .inr (0, [.ref q, .int (nI 0)]))]) [1] (by decide) rfl
  have hFc := va_free (wc := [(td 0, .inr (0, [.ref q, .int (nI 0)]))]) hD hS hA [1] rfl
  refine va_calli (va_runV (As := [.int n]) (rest := []) ⟨hx, hb, hml, hown, hts⟩ (c_Row_holds0 l dC dI cI (td 0) q n H.size) (cwV 1 hts gX3_isNode_X0_holds rfl rfl rfl (by decide +kernel) ⟨Nat.le_of_ble_eq_true rfl, Nat.le_of_ble_eq_true rfl⟩) ⟨fun a U g mk q => by obtain ⟨q0, q1, qP, qK, qD⟩ := q; exact ⟨q0, q1, qP, va_K.moved (u := U) (U := U.calling g mk a) (Vm.Alike.refl U.vm) qK, qD⟩, va_recv hK hPc (ci := 0) (q0 := 0) rfl rfl, fun U hU hW => ⟨rfl, by rw [hU], by rw [hU]; exact hPc, va_K.moved hW.alike hK, hDc.weaken (fun _ _ _ _ => trivial)⟩⟩ rfl rfl hl.1 rfl (lv_room (Nat.le_of_ble_eq_true rfl)) dX3_isNode_5 ⟨Nat.le_of_ble_eq_true rfl, Nat.le_of_ble_eq_true rfl⟩) hS (fun q _ h => hFc q h) hFc (fun r_1 u t H1 locs ht hvm hw hB hz1 hk1 hS => ?_)
  obtain ⟨hP1, hK1, hD1⟩ := hB
  rw [ht] at hP1
  obtain ⟨hP, hD⟩ := va_join (wr := [(h0, .inr (3, [.ref (td 0), .ref (td 1), .ref (td 2), .ref (td 3), .ref (td 4), .ref (td 5)]))]) (w1 := [(td 0, .inr (0, [.ref q, .int (nI 0)]))]) hP hD [1] [0] rfl rfl (by decide) (by decide) hk1 hFc hP1 hD1
  generalize H1 = H at hP hS ⊢
  obtain rfl : r_1 = 0 := hw
  have hP : va_P (dC, dI) vwCl [(h0, .inr (3, [.ref (td 0), .ref (td 1), .ref (td 2), .ref (td 3), .ref (td 4), .ref (td 5)])), (td 0, .inr (0, [.ref q, .int (nI 0)]))] H := hP
  have hD : va_D A [(h0, .inr (3, [.ref (td 0), .ref (td 1), .ref (td 2), .ref (td 3), .ref (td 4), .ref (td 5)])), (td 0, .inr (0, [.ref q, .int (nI 0)]))] := hD
  refine W.widen (k := 0) (n := 0) (Nat.le_of_ble_eq_true rfl) (Nat.le_of_ble_eq_true rfl) ?_
  have hP9 := hP.sub (ws' := [(h0, .inr (3, [.ref (td 0), .ref (td 1), .ref (td 2), .ref (td 3), .ref (td 4), .ref (td 5)])), (td 0, .inr (0, [.ref q, .int (nI 0)]))]) [0, 1] rfl
  have hD9 := hD.sub (ws' := [(h0, .inr (3, [.ref (td 0), .ref (td 1), .ref (td 2), .ref (td 3), .ref (td 4), .ref (td 5)])), (td 0, .inr (0, [.ref q, .int (nI 0)]))]) [0, 1] (by decide) rfl
  refine W.widen (k := 0) (n := 0) (Nat.le_of_ble_eq_true rfl) (Nat.le_of_ble_eq_true rfl) ?_
  exact W.zret (v := 0) hx hb hr rfl (fun t ht hW => ⟨⟨0, (), rfl, rfl, by rw [ht]; exact hP9, va_K.moved hW.alike hK, hD9⟩, hS.F ht⟩) hS.2.2 dX3_isNode_8

set_option maxHeartbeats 4000000 in
set_option maxRecDepth 100000 in
/-- isFree, of an empty tree -/
theorem c_isFree0 (l : Launch) (dC : Nat → ClassId) (dI : Nat → Nat → Nat) (cI : ClassId) (h0 : Nat) (td : Nat → Nat) (q : Nat) (n : Int32) (sz : Nat) : Met l yX3_isFree wsX3_isFree ({ frames := 2, cells := 0, slots := 0, locals := 42 }) (va_Pc [.ref h0, .int n] (fun U => U.heap.size = sz ∧ va_P (dC, dI) vwCl [(h0, .inr (3, [.ref (td 0), .ref (td 1), .ref (td 2), .ref (td 3), .ref (td 4), .ref (td 5)])), (td 0, .inr (0, [.ref q, .int (nI 0)]))] U.heap ∧ va_K (dC, dI) vwCl [(cI, .int)] U ∧ va_D (fun _ => True) [(h0, .inr (3, [.ref (td 0), .ref (td 1), .ref (td 2), .ref (td 3), .ref (td 4), .ref (td 5)])), (td 0, .inr (0, [.ref q, .int (nI 0)]))])) (va_Qi (fun (r : Int32) (_ : Unit) => r = 0) (fun (_ : Unit) (t : State) => va_P (dC, dI) vwCl [(h0, .inr (3, [.ref (td 0), .ref (td 1), .ref (td 2), .ref (td 3), .ref (td 4), .ref (td 5)])), (td 0, .inr (0, [.ref q, .int (nI 0)]))] t.heap ∧ va_K (dC, dI) vwCl [(cI, .int)] t ∧ va_D (va_A [(h0, .inr (3, [.ref (td 0), .ref (td 1), .ref (td 2), .ref (td 3), .ref (td 4), .ref (td 5)])), (td 0, .inr (0, [.ref q, .int (nI 0)]))] sz) [(h0, .inr (3, [.ref (td 0), .ref (td 1), .ref (td 2), .ref (td 3), .ref (td 4), .ref (td 5)])), (td 0, .inr (0, [.ref q, .int (nI 0)]))]) (va_A [(h0, .inr (3, [.ref (td 0), .ref (td 1), .ref (td 2), .ref (td 3), .ref (td 4), .ref (td 5)])), (td 0, .inr (0, [.ref q, .int (nI 0)]))] sz)) 0 0 (va_A [(h0, .inr (3, [.ref (td 0), .ref (td 1), .ref (td 2), .ref (td 3), .ref (td 4), .ref (td 5)])), (td 0, .inr (0, [.ref q, .int (nI 0)]))] sz) := by
  refine Met.ofW (cc := cX3_isFree) (maxL := 2) (ret := (some .boolean)) (by decide) rfl ?_
  intro p e s m args below meth c s₁ B hml hv
  obtain ⟨rfl, hsz, hP, hK, hD0⟩ := hv
  have hx := B.exec
  have hb := B.bytes
  have hr := B.returns
  have hts := atoms_spec (ws := wsX3_isFree) B.pre
  have hown : s.vm.findClass RX3 = some m.cls := findClass_of_methodNamed B.named
  have hlocks := B.notSynchronized
  subst hsz
  have hD := hD0.self (sz := s.heap.size)
  generalize hAe : va_A [(h0, .inr (3, [.ref (td 0), .ref (td 1), .ref (td 2), .ref (td 3), .ref (td 4), .ref (td 5)])), (td 0, .inr (0, [.ref q, .int (nI 0)]))] s.heap.size = A at hD ⊢
  have hA : ∀ q : Nat, s.heap.size ≤ q → A q := fun q h => by rw [← hAe]; exact Or.inr h
  have hS : va_S A s.heap s.heap [] := va_S.rf
  have hP : va_P (dC, dI) vwCl [(h0, .inr (3, [.ref (td 0), .ref (td 1), .ref (td 2), .ref (td 3), .ref (td 4), .ref (td 5)])), (td 0, .inr (0, [.ref q, .int (nI 0)]))] s.heap := hP
  have hl := lv_entry ([.ref h0, .int n]) (n := 2) (Nat.le_of_ble_eq_true rfl)
  rw [lg_entry_eq]
  generalize (lg_sl ([.ref h0, .int n]) ++ List.replicate (2 - (lg_sl ([.ref h0, .int n])).length) Slot.unset).toArray = ls at hl ⊢
  have hl : lv_has ls 2 [(0, .ref h0), (1, .int n)] := hl
  obtain ⟨H, hHe⟩ : ∃ H : Heap, H = s.heap := ⟨_, rfl⟩
  rw [← hHe] at hP ⊢
  have hS : va_S A s.heap H [] := by rw [hHe]; exact va_S.rf
  refine lv_aload_n hx hb dX3_isFree_0 rfl (lv_at hl 0 rfl) ?_
  refine lv_iload_n hx hb dX3_isFree_1 rfl (lv_at hl 1 rfl) ?_
  have hPc := hP.sub (ws' := [(h0, .inr (3, [.ref (td 0), .ref (td 1), .ref (td 2), .ref (td 3), .ref (td 4), .ref (td 5)])), (td 0, .inr (0, [.ref q, .int (nI 0)]))]) [0, 1] rfl
  have hDc := hD.sub (ws' := [(h0, .inr (3, [.ref (td 0), .ref (td 1), .ref (td 2), .ref (td 3), .ref (td 4), .ref (td 5)])), (td 0, .inr (0, [.ref q, .int (nI 0)]))]) [0, 1] (by decide) rfl
  have hFc := va_free (wc := [(h0, .inr (3, [.ref (td 0), .ref (td 1), .ref (td 2), .ref (td 3), .ref (td 4), .ref (td 5)])), (td 0, .inr (0, [.ref q, .int (nI 0)]))]) hD hS hA [0, 1] rfl
  refine va_calli (va_runV (As := [.int n]) (rest := []) ⟨hx, hb, hml, hown, hts⟩ (c_isNode0 l dC dI cI h0 td q n H.size) (cwV 1 hts gX3_isFree_X3_isNode rfl rfl rfl (by decide +kernel) ⟨Nat.le_of_ble_eq_true rfl, Nat.le_of_ble_eq_true rfl⟩) ⟨fun a U g mk q => by obtain ⟨q0, q1, qP, qK, qD⟩ := q; exact ⟨q0, q1, qP, va_K.moved (u := U) (U := U.calling g mk a) (Vm.Alike.refl U.vm) qK, qD⟩, va_recv hK hPc (ci := 3) (q0 := 0) rfl rfl, fun U hU hW => ⟨rfl, by rw [hU], by rw [hU]; exact hPc, va_K.moved hW.alike hK, hDc.weaken (fun _ _ _ _ => trivial)⟩⟩ rfl rfl hl.1 rfl (lv_room (Nat.le_of_ble_eq_true rfl)) dX3_isFree_2 ⟨Nat.le_of_ble_eq_true rfl, Nat.le_of_ble_eq_true rfl⟩) hS (fun q _ h => hFc q h) hFc (fun r_1 u t H1 locs ht hvm hw hB hz1 hk1 hS => ?_)
  obtain ⟨hP1, hK1, hD1⟩ := hB
  rw [ht] at hP1
  obtain ⟨hP, hD⟩ := va_join (wr := []) (w1 := [(h0, .inr (3, [.ref (td 0), .ref (td 1), .ref (td 2), .ref (td 3), .ref (td 4), .ref (td 5)])), (td 0, .inr (0, [.ref q, .int (nI 0)]))]) hP hD [0, 1] [] rfl rfl (by decide) (by decide) hk1 hFc hP1 hD1
  generalize H1 = H at hP hS ⊢
  obtain rfl : r_1 = 0 := hw
  have hP : va_P (dC, dI) vwCl [(h0, .inr (3, [.ref (td 0), .ref (td 1), .ref (td 2), .ref (td 3), .ref (td 4), .ref (td 5)])), (td 0, .inr (0, [.ref q, .int (nI 0)]))] H := hP
  have hD : va_D A [(h0, .inr (3, [.ref (td 0), .ref (td 1), .ref (td 2), .ref (td 3), .ref (td 4), .ref (td 5)])), (td 0, .inr (0, [.ref q, .int (nI 0)]))] := hD
  refine W.widen (k := 0) (n := 0) (Nat.le_of_ble_eq_true rfl) (Nat.le_of_ble_eq_true rfl) ?_
  refine lv_if_eq (tgt := 25) hx hb dX3_isFree_5 (by decide) (fun c_2 => ?_) (fun c_2 => absurd (by decide) c_2)
  refine lv_iconst (v := 0) hx hb dX3_isFree_25 (by decide) ?_
  have hP9 := hP.sub (ws' := [(h0, .inr (3, [.ref (td 0), .ref (td 1), .ref (td 2), .ref (td 3), .ref (td 4), .ref (td 5)])), (td 0, .inr (0, [.ref q, .int (nI 0)]))]) [0, 1] rfl
  have hD9 := hD.sub (ws' := [(h0, .inr (3, [.ref (td 0), .ref (td 1), .ref (td 2), .ref (td 3), .ref (td 4), .ref (td 5)])), (td 0, .inr (0, [.ref q, .int (nI 0)]))]) [0, 1] (by decide) rfl
  refine W.widen (k := 0) (n := 0) (Nat.le_of_ble_eq_true rfl) (Nat.le_of_ble_eq_true rfl) ?_
  exact W.zret (v := 0) hx hb hr rfl (fun t ht hW => ⟨⟨0, (), rfl, rfl, by rw [ht]; exact hP9, va_K.moved hW.alike hK, hD9⟩, hS.F ht⟩) hS.2.2 dX3_isFree_26

set_option maxHeartbeats 4000000 in
set_option maxRecDepth 100000 in
/-- isFull, of an empty tree -/
theorem c_isFull0 (l : Launch) (dC : Nat → ClassId) (dI : Nat → Nat → Nat) (cI : ClassId) (h0 : Nat) (td : Nat → Nat) (q : Nat) (sz : Nat) : Met l yX3_isFull wsX3_isFull ({ frames := 0, cells := 0, slots := 0, locals := 0 }) (va_Pc [.ref h0] (fun U => U.heap.size = sz ∧ va_P (dC, dI) vwCl [(h0, .inr (3, [.ref (td 0), .ref (td 1), .ref (td 2), .ref (td 3), .ref (td 4), .ref (td 5)])), (td 0, .inr (0, [.ref q, .int (nI 0)]))] U.heap ∧ va_K (dC, dI) vwCl [(cI, .int)] U ∧ va_D (fun _ => True) [(h0, .inr (3, [.ref (td 0), .ref (td 1), .ref (td 2), .ref (td 3), .ref (td 4), .ref (td 5)])), (td 0, .inr (0, [.ref q, .int (nI 0)]))])) (va_Qi (fun (r : Int32) (_ : Unit) => r = 0) (fun (_ : Unit) (t : State) => va_P (dC, dI) vwCl [(h0, .inr (3, [.ref (td 0), .ref (td 1), .ref (td 2), .ref (td 3), .ref (td 4), .ref (td 5)])), (td 0, .inr (0, [.ref q, .int (nI 0)]))] t.heap ∧ va_K (dC, dI) vwCl [(cI, .int)] t ∧ va_D (va_A [(h0, .inr (3, [.ref (td 0), .ref (td 1), .ref (td 2), .ref (td 3), .ref (td 4), .ref (td 5)])), (td 0, .inr (0, [.ref q, .int (nI 0)]))] sz) [(h0, .inr (3, [.ref (td 0), .ref (td 1), .ref (td 2), .ref (td 3), .ref (td 4), .ref (td 5)])), (td 0, .inr (0, [.ref q, .int (nI 0)]))]) (va_A [(h0, .inr (3, [.ref (td 0), .ref (td 1), .ref (td 2), .ref (td 3), .ref (td 4), .ref (td 5)])), (td 0, .inr (0, [.ref q, .int (nI 0)]))] sz)) 0 0 (va_A [(h0, .inr (3, [.ref (td 0), .ref (td 1), .ref (td 2), .ref (td 3), .ref (td 4), .ref (td 5)])), (td 0, .inr (0, [.ref q, .int (nI 0)]))] sz) := by
  refine Met.ofW (cc := cX3_isFull) (maxL := 1) (ret := (some .boolean)) (by decide) rfl ?_
  intro p e s m args below meth c s₁ B hml hv
  obtain ⟨rfl, hsz, hP, hK, hD0⟩ := hv
  have hx := B.exec
  have hb := B.bytes
  have hr := B.returns
  have hts := atoms_spec (ws := wsX3_isFull) B.pre
  have hown : s.vm.findClass RX3 = some m.cls := findClass_of_methodNamed B.named
  have hlocks := B.notSynchronized
  subst hsz
  have hD := hD0.self (sz := s.heap.size)
  generalize hAe : va_A [(h0, .inr (3, [.ref (td 0), .ref (td 1), .ref (td 2), .ref (td 3), .ref (td 4), .ref (td 5)])), (td 0, .inr (0, [.ref q, .int (nI 0)]))] s.heap.size = A at hD ⊢
  have hA : ∀ q : Nat, s.heap.size ≤ q → A q := fun q h => by rw [← hAe]; exact Or.inr h
  have hS : va_S A s.heap s.heap [] := va_S.rf
  have hP : va_P (dC, dI) vwCl [(h0, .inr (3, [.ref (td 0), .ref (td 1), .ref (td 2), .ref (td 3), .ref (td 4), .ref (td 5)])), (td 0, .inr (0, [.ref q, .int (nI 0)]))] s.heap := hP
  have hl := lv_entry ([.ref h0]) (n := 1) (Nat.le_of_ble_eq_true rfl)
  rw [lg_entry_eq]
  generalize (lg_sl ([.ref h0]) ++ List.replicate (1 - (lg_sl ([.ref h0])).length) Slot.unset).toArray = ls at hl ⊢
  have hl : lv_has ls 1 [(0, .ref h0)] := hl
  obtain ⟨H, hHe⟩ : ∃ H : Heap, H = s.heap := ⟨_, rfl⟩
  rw [← hHe] at hP ⊢
  have hS : va_S A s.heap H [] := by rw [hHe]; exact va_S.rf
  refine lv_aload_n hx hb dX3_isFull_0 rfl (lv_at hl 0 rfl) ?_
  refine va_get (D := (dC, dI)) (ci := 3) (v := .ref (td 0)) (C := RX3) (T := TX3) (N := 6) hx hb hts (fun w h => List.mem_cons_of_mem _ (List.mem_append_left _ (List.mem_append_right _ h))) hown hK hP 0 rfl rfl 0 (by decide) (hts (.fieldLink RX3 12 "PolarTypes$Tree" "kinds" "LPolarTypes$Row;") (List.mem_of_getElem? (i := 1) (by decide +kernel))) (fun _ h9 => h9) rfl dX3_isFull_1 ?_
  refine va_get (D := (dC, dI)) (ci := 0) (v := .int (nI 0)) (C := RX0) (T := TX0) (N := 2) hx hb hts (fun w h => List.mem_cons_of_mem _ (List.mem_append_right _ h)) hown hK hP 1 rfl rfl 1 (by decide) (hts (.fieldLink RX3 47 "PolarTypes$Row" "size" "I") (List.mem_of_getElem? (i := 2) (by decide +kernel))) (fun _ h9 => h9) rfl dX3_isFull_4 ?_
  refine lv_bipush (v := 120) hx hb dX3_isFull_7 (by decide) ?_
  refine lv_icmp_lt (tgt := 16) hx hb dX3_isFull_9 (by decide) (fun c_1 => ?_) (fun c_1 => absurd (by decide) c_1)
  refine lv_iconst (v := 0) hx hb dX3_isFull_16 (by decide) ?_
  have hP9 := hP.sub (ws' := [(h0, .inr (3, [.ref (td 0), .ref (td 1), .ref (td 2), .ref (td 3), .ref (td 4), .ref (td 5)])), (td 0, .inr (0, [.ref q, .int (nI 0)]))]) [0, 1] rfl
  have hD9 := hD.sub (ws' := [(h0, .inr (3, [.ref (td 0), .ref (td 1), .ref (td 2), .ref (td 3), .ref (td 4), .ref (td 5)])), (td 0, .inr (0, [.ref q, .int (nI 0)]))]) [0, 1] (by decide) rfl
  refine W.widen (k := 0) (n := 0) (Nat.le_of_ble_eq_true rfl) (Nat.le_of_ble_eq_true rfl) ?_
  exact W.zret (v := 0) hx hb hr rfl (fun t ht hW => ⟨⟨0, (), rfl, rfl, by rw [ht]; exact hP9, va_K.moved hW.alike hK, hD9⟩, hS.F ht⟩) hS.2.2 dX3_isFull_17

set_option maxHeartbeats 4000000 in
set_option maxRecDepth 100000 in
/-- size, of an empty tree -/
theorem c_size0 (l : Launch) (dC : Nat → ClassId) (dI : Nat → Nat → Nat) (cI : ClassId) (h0 : Nat) (td : Nat → Nat) (q : Nat) (sz : Nat) : Met l yX3_size wsX3_size ({ frames := 0, cells := 0, slots := 0, locals := 0 }) (va_Pc [.ref h0] (fun U => U.heap.size = sz ∧ va_P (dC, dI) vwCl [(h0, .inr (3, [.ref (td 0), .ref (td 1), .ref (td 2), .ref (td 3), .ref (td 4), .ref (td 5)])), (td 0, .inr (0, [.ref q, .int (nI 0)]))] U.heap ∧ va_K (dC, dI) vwCl [(cI, .int)] U ∧ va_D (fun _ => True) [(h0, .inr (3, [.ref (td 0), .ref (td 1), .ref (td 2), .ref (td 3), .ref (td 4), .ref (td 5)])), (td 0, .inr (0, [.ref q, .int (nI 0)]))])) (va_Qi (fun (r : Int32) (_ : Unit) => r = 0) (fun (_ : Unit) (t : State) => va_P (dC, dI) vwCl [(h0, .inr (3, [.ref (td 0), .ref (td 1), .ref (td 2), .ref (td 3), .ref (td 4), .ref (td 5)])), (td 0, .inr (0, [.ref q, .int (nI 0)]))] t.heap ∧ va_K (dC, dI) vwCl [(cI, .int)] t ∧ va_D (va_A [(h0, .inr (3, [.ref (td 0), .ref (td 1), .ref (td 2), .ref (td 3), .ref (td 4), .ref (td 5)])), (td 0, .inr (0, [.ref q, .int (nI 0)]))] sz) [(h0, .inr (3, [.ref (td 0), .ref (td 1), .ref (td 2), .ref (td 3), .ref (td 4), .ref (td 5)])), (td 0, .inr (0, [.ref q, .int (nI 0)]))]) (va_A [(h0, .inr (3, [.ref (td 0), .ref (td 1), .ref (td 2), .ref (td 3), .ref (td 4), .ref (td 5)])), (td 0, .inr (0, [.ref q, .int (nI 0)]))] sz)) 0 0 (va_A [(h0, .inr (3, [.ref (td 0), .ref (td 1), .ref (td 2), .ref (td 3), .ref (td 4), .ref (td 5)])), (td 0, .inr (0, [.ref q, .int (nI 0)]))] sz) := by
  refine Met.ofW (cc := cX3_size) (maxL := 1) (ret := (some .int)) (by decide) rfl ?_
  intro p e s m args below meth c s₁ B hml hv
  obtain ⟨rfl, hsz, hP, hK, hD0⟩ := hv
  have hx := B.exec
  have hb := B.bytes
  have hr := B.returns
  have hts := atoms_spec (ws := wsX3_size) B.pre
  have hown : s.vm.findClass RX3 = some m.cls := findClass_of_methodNamed B.named
  have hlocks := B.notSynchronized
  subst hsz
  have hD := hD0.self (sz := s.heap.size)
  generalize hAe : va_A [(h0, .inr (3, [.ref (td 0), .ref (td 1), .ref (td 2), .ref (td 3), .ref (td 4), .ref (td 5)])), (td 0, .inr (0, [.ref q, .int (nI 0)]))] s.heap.size = A at hD ⊢
  have hA : ∀ q : Nat, s.heap.size ≤ q → A q := fun q h => by rw [← hAe]; exact Or.inr h
  have hS : va_S A s.heap s.heap [] := va_S.rf
  have hP : va_P (dC, dI) vwCl [(h0, .inr (3, [.ref (td 0), .ref (td 1), .ref (td 2), .ref (td 3), .ref (td 4), .ref (td 5)])), (td 0, .inr (0, [.ref q, .int (nI 0)]))] s.heap := hP
  have hl := lv_entry ([.ref h0]) (n := 1) (Nat.le_of_ble_eq_true rfl)
  rw [lg_entry_eq]
  generalize (lg_sl ([.ref h0]) ++ List.replicate (1 - (lg_sl ([.ref h0])).length) Slot.unset).toArray = ls at hl ⊢
  have hl : lv_has ls 1 [(0, .ref h0)] := hl
  obtain ⟨H, hHe⟩ : ∃ H : Heap, H = s.heap := ⟨_, rfl⟩
  rw [← hHe] at hP ⊢
  have hS : va_S A s.heap H [] := by rw [hHe]; exact va_S.rf
  refine lv_aload_n hx hb dX3_size_0 rfl (lv_at hl 0 rfl) ?_
  refine va_get (D := (dC, dI)) (ci := 3) (v := .ref (td 0)) (C := RX3) (T := TX3) (N := 6) hx hb hts (fun w h => List.mem_cons_of_mem _ (List.mem_append_left _ (List.mem_append_right _ h))) hown hK hP 0 rfl rfl 0 (by decide) (hts (.fieldLink RX3 12 "PolarTypes$Tree" "kinds" "LPolarTypes$Row;") (List.mem_of_getElem? (i := 1) (by decide +kernel))) (fun _ h9 => h9) rfl dX3_size_1 ?_
  refine va_get (D := (dC, dI)) (ci := 0) (v := .int (nI 0)) (C := RX0) (T := TX0) (N := 2) hx hb hts (fun w h => List.mem_cons_of_mem _ (List.mem_append_right _ h)) hown hK hP 1 rfl rfl 1 (by decide) (hts (.fieldLink RX3 47 "PolarTypes$Row" "size" "I") (List.mem_of_getElem? (i := 2) (by decide +kernel))) (fun _ h9 => h9) rfl dX3_size_4 ?_
  have hP9 := hP.sub (ws' := [(h0, .inr (3, [.ref (td 0), .ref (td 1), .ref (td 2), .ref (td 3), .ref (td 4), .ref (td 5)])), (td 0, .inr (0, [.ref q, .int (nI 0)]))]) [0, 1] rfl
  have hD9 := hD.sub (ws' := [(h0, .inr (3, [.ref (td 0), .ref (td 1), .ref (td 2), .ref (td 3), .ref (td 4), .ref (td 5)])), (td 0, .inr (0, [.ref q, .int (nI 0)]))]) [0, 1] (by decide) rfl
  refine W.widen (k := 0) (n := 0) (Nat.le_of_ble_eq_true rfl) (Nat.le_of_ble_eq_true rfl) ?_
  exact W.iret (v := nI 0) hx hb hr (fun t ht hW => ⟨⟨nI 0, (), rfl, rfl, by rw [ht]; exact hP9, va_K.moved hW.alike hK, hD9⟩, hS.F ht⟩) hS.2.2 dX3_size_7

set_option maxHeartbeats 4000000 in
set_option maxRecDepth 100000 in
/-- freeCount, of an empty tree -/
theorem c_freeCount0 (l : Launch) (dC : Nat → ClassId) (dI : Nat → Nat → Nat) (cI : ClassId) (h0 : Nat) (td : Nat → Nat) (q : Nat) (sz : Nat) : Met l yX3_freeCount wsX3_freeCount ({ frames := 1, cells := 0, slots := 0, locals := 20 }) (va_Pc [.ref h0] (fun U => U.heap.size = sz ∧ va_P (dC, dI) vwCl [(h0, .inr (3, [.ref (td 0), .ref (td 1), .ref (td 2), .ref (td 3), .ref (td 4), .ref (td 5)])), (td 0, .inr (0, [.ref q, .int (nI 0)]))] U.heap ∧ va_K (dC, dI) vwCl [(cI, .int)] U ∧ va_D (fun _ => True) [(h0, .inr (3, [.ref (td 0), .ref (td 1), .ref (td 2), .ref (td 3), .ref (td 4), .ref (td 5)])), (td 0, .inr (0, [.ref q, .int (nI 0)]))])) (va_Qi (fun (r : Int32) (_ : Unit) => r = 0) (fun (_ : Unit) (t : State) => va_P (dC, dI) vwCl [(h0, .inr (3, [.ref (td 0), .ref (td 1), .ref (td 2), .ref (td 3), .ref (td 4), .ref (td 5)])), (td 0, .inr (0, [.ref q, .int (nI 0)]))] t.heap ∧ va_K (dC, dI) vwCl [(cI, .int)] t ∧ va_D (va_A [(h0, .inr (3, [.ref (td 0), .ref (td 1), .ref (td 2), .ref (td 3), .ref (td 4), .ref (td 5)])), (td 0, .inr (0, [.ref q, .int (nI 0)]))] sz) [(h0, .inr (3, [.ref (td 0), .ref (td 1), .ref (td 2), .ref (td 3), .ref (td 4), .ref (td 5)])), (td 0, .inr (0, [.ref q, .int (nI 0)]))]) (va_A [(h0, .inr (3, [.ref (td 0), .ref (td 1), .ref (td 2), .ref (td 3), .ref (td 4), .ref (td 5)])), (td 0, .inr (0, [.ref q, .int (nI 0)]))] sz)) 0 0 (va_A [(h0, .inr (3, [.ref (td 0), .ref (td 1), .ref (td 2), .ref (td 3), .ref (td 4), .ref (td 5)])), (td 0, .inr (0, [.ref q, .int (nI 0)]))] sz) := by
  refine Met.ofW (cc := cX3_freeCount) (maxL := 4) (ret := (some .int)) (by decide) rfl ?_
  intro p e s m args below meth c s₁ B hml hv
  obtain ⟨rfl, hsz, hP, hK, hD0⟩ := hv
  have hx := B.exec
  have hb := B.bytes
  have hr := B.returns
  have hts := atoms_spec (ws := wsX3_freeCount) B.pre
  have hown : s.vm.findClass RX3 = some m.cls := findClass_of_methodNamed B.named
  have hlocks := B.notSynchronized
  subst hsz
  have hD := hD0.self (sz := s.heap.size)
  generalize hAe : va_A [(h0, .inr (3, [.ref (td 0), .ref (td 1), .ref (td 2), .ref (td 3), .ref (td 4), .ref (td 5)])), (td 0, .inr (0, [.ref q, .int (nI 0)]))] s.heap.size = A at hD ⊢
  have hA : ∀ q : Nat, s.heap.size ≤ q → A q := fun q h => by rw [← hAe]; exact Or.inr h
  have hS : va_S A s.heap s.heap [] := va_S.rf
  have hP : va_P (dC, dI) vwCl [(h0, .inr (3, [.ref (td 0), .ref (td 1), .ref (td 2), .ref (td 3), .ref (td 4), .ref (td 5)])), (td 0, .inr (0, [.ref q, .int (nI 0)]))] s.heap := hP
  have hl := lv_entry ([.ref h0]) (n := 4) (Nat.le_of_ble_eq_true rfl)
  rw [lg_entry_eq]
  generalize (lg_sl ([.ref h0]) ++ List.replicate (4 - (lg_sl ([.ref h0])).length) Slot.unset).toArray = ls at hl ⊢
  have hl : lv_has ls 4 [(0, .ref h0)] := hl
  obtain ⟨H, hHe⟩ : ∃ H : Heap, H = s.heap := ⟨_, rfl⟩
  rw [← hHe] at hP ⊢
  have hS : va_S A s.heap H [] := by rw [hHe]; exact va_S.rf
  refine lv_iconst (v := 0) hx hb dX3_freeCount_0 (by decide) ?_
  refine lv_istore_n (lv' := [(1, .int 0), (0, .ref h0)]) hx hb dX3_freeCount_1 rfl hl (by decide) rfl (fun ls hl => ?_)
  refine lv_aload_n hx hb dX3_freeCount_2 rfl (lv_at hl 1 rfl) ?_
  have hPc := hP.sub (ws' := [(h0, .inr (3, [.ref (td 0), .ref (td 1), .ref (td 2), .ref (td 3), .ref (td 4), .ref (td 5)])), (td 0, .inr (0, [.ref q, .int (nI 0)]))]) [0, 1] rfl
  have hDc := hD.sub (ws' := [(h0, .inr (3, [.ref (td 0), .ref (td 1), .ref (td 2), .ref (td 3), .ref (td 4), .ref (td 5)])), (td 0, .inr (0, [.ref q, .int (nI 0)]))]) [0, 1] (by decide) rfl
  have hFc := va_free (wc := [(h0, .inr (3, [.ref (td 0), .ref (td 1), .ref (td 2), .ref (td 3), .ref (td 4), .ref (td 5)])), (td 0, .inr (0, [.ref q, .int (nI 0)]))]) hD hS hA [0, 1] rfl
  refine va_calli (va_runV (As := []) (rest := []) ⟨hx, hb, hml, hown, hts⟩ (c_size0 l dC dI cI h0 td q H.size) (cwV 0 hts gX3_freeCount_X3_size rfl rfl rfl (by decide +kernel) ⟨Nat.le_of_ble_eq_true rfl, Nat.le_of_ble_eq_true rfl⟩) ⟨fun a U g mk q => by obtain ⟨q0, q1, qP, qK, qD⟩ := q; exact ⟨q0, q1, qP, va_K.moved (u := U) (U := U.calling g mk a) (Vm.Alike.refl U.vm) qK, qD⟩, va_recv hK hPc (ci := 3) (q0 := 0) rfl rfl, fun U hU hW => ⟨rfl, by rw [hU], by rw [hU]; exact hPc, va_K.moved hW.alike hK, hDc.weaken (fun _ _ _ _ => trivial)⟩⟩ rfl rfl hl.1 rfl (lv_room (Nat.le_of_ble_eq_true rfl)) dX3_freeCount_3 ⟨Nat.le_of_ble_eq_true rfl, Nat.le_of_ble_eq_true rfl⟩) hS (fun q _ h => hFc q h) hFc (fun r_1 u t H1 locs ht hvm hw hB hz1 hk1 hS => ?_)
  obtain ⟨hP1, hK1, hD1⟩ := hB
  rw [ht] at hP1
  obtain ⟨hP, hD⟩ := va_join (wr := []) (w1 := [(h0, .inr (3, [.ref (td 0), .ref (td 1), .ref (td 2), .ref (td 3), .ref (td 4), .ref (td 5)])), (td 0, .inr (0, [.ref q, .int (nI 0)]))]) hP hD [0, 1] [] rfl rfl (by decide) (by decide) hk1 hFc hP1 hD1
  generalize H1 = H at hP hS ⊢
  obtain rfl : r_1 = 0 := hw
  have hP : va_P (dC, dI) vwCl [(h0, .inr (3, [.ref (td 0), .ref (td 1), .ref (td 2), .ref (td 3), .ref (td 4), .ref (td 5)])), (td 0, .inr (0, [.ref q, .int (nI 0)]))] H := hP
  have hD : va_D A [(h0, .inr (3, [.ref (td 0), .ref (td 1), .ref (td 2), .ref (td 3), .ref (td 4), .ref (td 5)])), (td 0, .inr (0, [.ref q, .int (nI 0)]))] := hD
  refine W.widen (k := 0) (n := 0) (Nat.le_of_ble_eq_true rfl) (Nat.le_of_ble_eq_true rfl) ?_
  refine lv_istore_n (lv' := [(2, .int 0), (1, .int 0), (0, .ref h0)]) hx hb dX3_freeCount_6 rfl hl (by decide) rfl (fun ls hl => ?_)
  refine lv_iconst (v := 0) hx hb dX3_freeCount_7 (by decide) ?_
  refine lv_istore_n (lv' := [(3, .int 0), (2, .int 0), (1, .int 0), (0, .ref h0)]) hx hb dX3_freeCount_8 rfl hl (by decide) rfl (fun ls hl => ?_)
  refine lv_iload_n hx hb dX3_freeCount_9 rfl (lv_at hl 0 rfl) ?_
  refine lv_iload_n hx hb dX3_freeCount_10 rfl (lv_at hl 1 rfl) ?_
  refine lv_icmp_ge (tgt := 31) hx hb dX3_freeCount_11 (by decide) (fun c_2 => ?_) (fun c_2 => absurd (by decide) c_2)
  refine lv_iload_n hx hb dX3_freeCount_31 rfl (lv_at hl 2 rfl) ?_
  have hP9 := hP.sub (ws' := [(h0, .inr (3, [.ref (td 0), .ref (td 1), .ref (td 2), .ref (td 3), .ref (td 4), .ref (td 5)])), (td 0, .inr (0, [.ref q, .int (nI 0)]))]) [0, 1] rfl
  have hD9 := hD.sub (ws' := [(h0, .inr (3, [.ref (td 0), .ref (td 1), .ref (td 2), .ref (td 3), .ref (td 4), .ref (td 5)])), (td 0, .inr (0, [.ref q, .int (nI 0)]))]) [0, 1] (by decide) rfl
  refine W.widen (k := 0) (n := 0) (Nat.le_of_ble_eq_true rfl) (Nat.le_of_ble_eq_true rfl) ?_
  exact W.iret (v := 0) hx hb hr (fun t ht hW => ⟨⟨0, (), rfl, rfl, by rw [ht]; exact hP9, va_K.moved hW.alike hK, hD9⟩, hS.F ht⟩) hS.2.2 dX3_freeCount_32

set_option maxHeartbeats 4000000 in
set_option maxRecDepth 100000 in
/-- canBeParts, of an empty tree -/
theorem c_canBe0 (l : Launch) (dC : Nat → ClassId) (dI : Nat → Nat → Nat) (cI : ClassId) (h0 : Nat) (td : Nat → Nat) (q : Nat) (many : Int32) (na : Int32) (nb : Int32) (nc : Int32) (sz : Nat) : Met l yX3_canBeParts wsX3_canBeParts ({ frames := 3, cells := 0, slots := 0, locals := 63 }) (va_Pc [.ref h0, .int many, .int na, .int nb, .int nc] (fun U => U.heap.size = sz ∧ va_P (dC, dI) vwCl [(h0, .inr (3, [.ref (td 0), .ref (td 1), .ref (td 2), .ref (td 3), .ref (td 4), .ref (td 5)])), (td 0, .inr (0, [.ref q, .int (nI 0)]))] U.heap ∧ va_K (dC, dI) vwCl [(cI, .int)] U ∧ va_D (fun _ => True) [(h0, .inr (3, [.ref (td 0), .ref (td 1), .ref (td 2), .ref (td 3), .ref (td 4), .ref (td 5)])), (td 0, .inr (0, [.ref q, .int (nI 0)]))])) (va_Qi (fun (r : Int32) (_ : Unit) => r = p_canB many) (fun (_ : Unit) (t : State) => va_P (dC, dI) vwCl [(h0, .inr (3, [.ref (td 0), .ref (td 1), .ref (td 2), .ref (td 3), .ref (td 4), .ref (td 5)])), (td 0, .inr (0, [.ref q, .int (nI 0)]))] t.heap ∧ va_K (dC, dI) vwCl [(cI, .int)] t ∧ va_D (va_A [(h0, .inr (3, [.ref (td 0), .ref (td 1), .ref (td 2), .ref (td 3), .ref (td 4), .ref (td 5)])), (td 0, .inr (0, [.ref q, .int (nI 0)]))] sz) [(h0, .inr (3, [.ref (td 0), .ref (td 1), .ref (td 2), .ref (td 3), .ref (td 4), .ref (td 5)])), (td 0, .inr (0, [.ref q, .int (nI 0)]))]) (va_A [(h0, .inr (3, [.ref (td 0), .ref (td 1), .ref (td 2), .ref (td 3), .ref (td 4), .ref (td 5)])), (td 0, .inr (0, [.ref q, .int (nI 0)]))] sz)) 0 0 (va_A [(h0, .inr (3, [.ref (td 0), .ref (td 1), .ref (td 2), .ref (td 3), .ref (td 4), .ref (td 5)])), (td 0, .inr (0, [.ref q, .int (nI 0)]))] sz) := by
  refine Met.ofW (cc := cX3_canBeParts) (maxL := 5) (ret := (some .boolean)) (by decide) rfl ?_
  intro p e s m args below meth c s₁ B hml hv
  obtain ⟨rfl, hsz, hP, hK, hD0⟩ := hv
  have hx := B.exec
  have hb := B.bytes
  have hr := B.returns
  have hts := atoms_spec (ws := wsX3_canBeParts) B.pre
  have hown : s.vm.findClass RX3 = some m.cls := findClass_of_methodNamed B.named
  have hlocks := B.notSynchronized
  subst hsz
  have hD := hD0.self (sz := s.heap.size)
  generalize hAe : va_A [(h0, .inr (3, [.ref (td 0), .ref (td 1), .ref (td 2), .ref (td 3), .ref (td 4), .ref (td 5)])), (td 0, .inr (0, [.ref q, .int (nI 0)]))] s.heap.size = A at hD ⊢
  have hA : ∀ q : Nat, s.heap.size ≤ q → A q := fun q h => by rw [← hAe]; exact Or.inr h
  have hS : va_S A s.heap s.heap [] := va_S.rf
  have hP : va_P (dC, dI) vwCl [(h0, .inr (3, [.ref (td 0), .ref (td 1), .ref (td 2), .ref (td 3), .ref (td 4), .ref (td 5)])), (td 0, .inr (0, [.ref q, .int (nI 0)]))] s.heap := hP
  have hl := lv_entry ([.ref h0, .int many, .int na, .int nb, .int nc]) (n := 5) (Nat.le_of_ble_eq_true rfl)
  rw [lg_entry_eq]
  generalize (lg_sl ([.ref h0, .int many, .int na, .int nb, .int nc]) ++ List.replicate (5 - (lg_sl ([.ref h0, .int many, .int na, .int nb, .int nc])).length) Slot.unset).toArray = ls at hl ⊢
  have hl : lv_has ls 5 [(0, .ref h0), (1, .int many), (2, .int na), (3, .int nb), (4, .int nc)] := hl
  obtain ⟨H, hHe⟩ : ∃ H : Heap, H = s.heap := ⟨_, rfl⟩
  rw [← hHe] at hP ⊢
  have hS : va_S A s.heap H [] := by rw [hHe]; exact va_S.rf
  refine lv_iload_n hx hb dX3_canBeParts_0 rfl (lv_at hl 1 rfl) ?_
  refine lv_iconst (v := 1) hx hb dX3_canBeParts_1 (by decide) ?_
  refine lv_icmp_lt (tgt := 15) hx hb dX3_canBeParts_2 (by decide) (fun c_1 => ?_) (fun c_1 => ?_)
  · skip
    refine lv_iload_n hx hb dX3_canBeParts_15 rfl (lv_at hl 1 rfl) ?_
    refine lv_iconst (v := 2) hx hb dX3_canBeParts_16 (by decide) ?_
    refine lv_icmp_lt (tgt := 35) hx hb dX3_canBeParts_17 (by decide) (fun c_2 => ?_) (fun c_2 => absurd (Int32.lt_of_lt_of_le c_1 (by decide)) c_2)
    refine lv_iload_n hx hb dX3_canBeParts_35 rfl (lv_at hl 1 rfl) ?_
    refine lv_iconst (v := 3) hx hb dX3_canBeParts_36 (by decide) ?_
    refine lv_icmp_lt (tgt := 61) hx hb dX3_canBeParts_37 (by decide) (fun c_3 => ?_) (fun c_3 => absurd (Int32.lt_of_lt_of_le c_1 (by decide)) c_3)
    refine lv_iconst (v := 1) hx hb dX3_canBeParts_61 (by decide) ?_
    refine lv_goto (tgt := 66) hx hb dX3_canBeParts_62 (by decide) ?_
    have hP9 := hP.sub (ws' := [(h0, .inr (3, [.ref (td 0), .ref (td 1), .ref (td 2), .ref (td 3), .ref (td 4), .ref (td 5)])), (td 0, .inr (0, [.ref q, .int (nI 0)]))]) [0, 1] rfl
    have hD9 := hD.sub (ws' := [(h0, .inr (3, [.ref (td 0), .ref (td 1), .ref (td 2), .ref (td 3), .ref (td 4), .ref (td 5)])), (td 0, .inr (0, [.ref q, .int (nI 0)]))]) [0, 1] (by decide) rfl
    refine W.widen (k := 0) (n := 0) (Nat.le_of_ble_eq_true rfl) (Nat.le_of_ble_eq_true rfl) ?_
    exact W.zret (v := 1) hx hb hr rfl (fun t ht hW => ⟨⟨1, (), rfl, (by simp only [p_canB, if_pos c_1]), by rw [ht]; exact hP9, va_K.moved hW.alike hK, hD9⟩, hS.F ht⟩) hS.2.2 dX3_canBeParts_66
  · skip
    refine lv_aload_n hx hb dX3_canBeParts_5 rfl (lv_at hl 0 rfl) ?_
    refine lv_iload_n hx hb dX3_canBeParts_6 rfl (lv_at hl 2 rfl) ?_
    have hPc := hP.sub (ws' := [(h0, .inr (3, [.ref (td 0), .ref (td 1), .ref (td 2), .ref (td 3), .ref (td 4), .ref (td 5)])), (td 0, .inr (0, [.ref q, .int (nI 0)]))]) [0, 1] rfl
    have hDc := hD.sub (ws' := [(h0, .inr (3, [.ref (td 0), .ref (td 1), .ref (td 2), .ref (td 3), .ref (td 4), .ref (td 5)])), (td 0, .inr (0, [.ref q, .int (nI 0)]))]) [0, 1] (by decide) rfl
    have hFc := va_free (wc := [(h0, .inr (3, [.ref (td 0), .ref (td 1), .ref (td 2), .ref (td 3), .ref (td 4), .ref (td 5)])), (td 0, .inr (0, [.ref q, .int (nI 0)]))]) hD hS hA [0, 1] rfl
    refine va_calli (va_runV (As := [.int na]) (rest := []) ⟨hx, hb, hml, hown, hts⟩ (c_isFree0 l dC dI cI h0 td q na H.size) (cwV 1 hts gX3_canBeParts_X3_isFree rfl rfl rfl (by decide +kernel) ⟨Nat.le_of_ble_eq_true rfl, Nat.le_of_ble_eq_true rfl⟩) ⟨fun a U g mk q => by obtain ⟨q0, q1, qP, qK, qD⟩ := q; exact ⟨q0, q1, qP, va_K.moved (u := U) (U := U.calling g mk a) (Vm.Alike.refl U.vm) qK, qD⟩, va_recv hK hPc (ci := 3) (q0 := 0) rfl rfl, fun U hU hW => ⟨rfl, by rw [hU], by rw [hU]; exact hPc, va_K.moved hW.alike hK, hDc.weaken (fun _ _ _ _ => trivial)⟩⟩ rfl rfl hl.1 rfl (lv_room (Nat.le_of_ble_eq_true rfl)) dX3_canBeParts_7 ⟨Nat.le_of_ble_eq_true rfl, Nat.le_of_ble_eq_true rfl⟩) hS (fun q _ h => hFc q h) hFc (fun r_4 u t H1 locs ht hvm hw hB hz1 hk1 hS => ?_)
    obtain ⟨hP1, hK1, hD1⟩ := hB
    rw [ht] at hP1
    obtain ⟨hP, hD⟩ := va_join (wr := []) (w1 := [(h0, .inr (3, [.ref (td 0), .ref (td 1), .ref (td 2), .ref (td 3), .ref (td 4), .ref (td 5)])), (td 0, .inr (0, [.ref q, .int (nI 0)]))]) hP hD [0, 1] [] rfl rfl (by decide) (by decide) hk1 hFc hP1 hD1
    generalize H1 = H at hP hS ⊢
    obtain rfl : r_4 = 0 := hw
    have hP : va_P (dC, dI) vwCl [(h0, .inr (3, [.ref (td 0), .ref (td 1), .ref (td 2), .ref (td 3), .ref (td 4), .ref (td 5)])), (td 0, .inr (0, [.ref q, .int (nI 0)]))] H := hP
    have hD : va_D A [(h0, .inr (3, [.ref (td 0), .ref (td 1), .ref (td 2), .ref (td 3), .ref (td 4), .ref (td 5)])), (td 0, .inr (0, [.ref q, .int (nI 0)]))] := hD
    refine W.widen (k := 0) (n := 0) (Nat.le_of_ble_eq_true rfl) (Nat.le_of_ble_eq_true rfl) ?_
    refine lv_if_ne (tgt := 15) hx hb dX3_canBeParts_10 (by decide) (fun c_5 => absurd (by decide) c_5) (fun c_5 => ?_)
    refine lv_iconst (v := 0) hx hb dX3_canBeParts_13 (by decide) ?_
    have hP9 := hP.sub (ws' := [(h0, .inr (3, [.ref (td 0), .ref (td 1), .ref (td 2), .ref (td 3), .ref (td 4), .ref (td 5)])), (td 0, .inr (0, [.ref q, .int (nI 0)]))]) [0, 1] rfl
    have hD9 := hD.sub (ws' := [(h0, .inr (3, [.ref (td 0), .ref (td 1), .ref (td 2), .ref (td 3), .ref (td 4), .ref (td 5)])), (td 0, .inr (0, [.ref q, .int (nI 0)]))]) [0, 1] (by decide) rfl
    refine W.widen (k := 0) (n := 0) (Nat.le_of_ble_eq_true rfl) (Nat.le_of_ble_eq_true rfl) ?_
    exact W.zret (v := 0) hx hb hr rfl (fun t ht hW => ⟨⟨0, (), rfl, (by simp only [p_canB, if_neg c_1]), by rw [ht]; exact hP9, va_K.moved hW.alike hK, hD9⟩, hS.F ht⟩) hS.2.2 dX3_canBeParts_14

