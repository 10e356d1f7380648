theorem dX7_node_0 : decode cX7_node 0 = .ok (.iload_n 1, 1) := by decide +kernel
set_option maxRecDepth 20000 in
theorem ggX7_node_X3_isKind : GoodIn wsX7_node wsX3_isKind := goodIn_r _ [5, 6] (by decide +kernel) (by decide +kernel)
set_option maxRecDepth 20000 in
theorem gX7_node_X3_isKind : GoodIn wsX7_node (va_wsS RX7 43 yX3_isKind wsX3_isKind) := goodIn_app (goodIn_of _ (by decide +kernel)) ggX7_node_X3_isKind
theorem dX7_node_1 : decode cX7_node 1 = .ok (.invokestatic 43, 3) := by decide +kernel
theorem dX7_node_4 : decode cX7_node 4 = .ok (.ifCond .eq 11, 3) := by decide +kernel
theorem dX7_node_15 : decode cX7_node 15 = .ok (.iconst (-1), 1) := by decide +kernel
theorem dX7_node_16 : decode cX7_node 16 = .ok (.ireturn, 1) := by decide +kernel
theorem dX7_node_7 : decode cX7_node 7 = .ok (.iload_n 1, 1) := by decide +kernel
theorem dX7_node_8 : decode cX7_node 8 = .ok (.iload_n 2, 1) := by decide +kernel
set_option maxRecDepth 20000 in
theorem ggX7_node_X3_isFitting : GoodIn wsX7_node wsX3_isFitting := goodIn_r _ [9, 10, 11, 4, 12, 13, 14, 15] (by decide +kernel) (by decide +kernel)
set_option maxRecDepth 20000 in
theorem gX7_node_X3_isFitting : GoodIn wsX7_node (va_wsS RX7 47 yX3_isFitting wsX3_isFitting) := goodIn_app (goodIn_of _ (by decide +kernel)) ggX7_node_X3_isFitting
theorem dX7_node_9 : decode cX7_node 9 = .ok (.invokestatic 47, 3) := by decide +kernel
theorem dX7_node_12 : decode cX7_node 12 = .ok (.ifCond .ne 5, 3) := by decide +kernel
theorem dX7_node_17 : decode cX7_node 17 = .ok (.aload_n 0, 1) := by decide +kernel
theorem dX7_node_18 : decode cX7_node 18 = .ok (.getfield 12, 3) := by decide +kernel
theorem dX7_node_21 : decode cX7_node 21 = .ok (.iload_n 1, 1) := by decide +kernel
set_option maxRecDepth 20000 in
theorem ggX7_node_X3_partsOfKind : GoodIn wsX7_node wsX3_partsOfKind := goodIn_r _ [18, 6, 19, 3, 4, 5] (by decide +kernel) (by decide +kernel)
set_option maxRecDepth 20000 in
theorem gX7_node_X3_partsOfKind : GoodIn wsX7_node (va_wsS RX7 51 yX3_partsOfKind wsX3_partsOfKind) := goodIn_app (goodIn_of _ (by decide +kernel)) ggX7_node_X3_partsOfKind
theorem dX7_node_22 : decode cX7_node 22 = .ok (.invokestatic 51, 3) := by decide +kernel
theorem dX7_node_25 : decode cX7_node 25 = .ok (.iload_n 3, 1) := by decide +kernel
theorem dX7_node_26 : decode cX7_node 26 = .ok (.iload 4, 2) := by decide +kernel
theorem dX7_node_28 : decode cX7_node 28 = .ok (.iload 5, 2) := by decide +kernel
set_option maxRecDepth 20000 in
theorem ggX7_node_X3_canBeParts : GoodIn wsX7_node wsX3_canBeParts := goodIn_r _ [23, 24, 25, 26, 4, 27, 28, 29, 30, 31, 32, 33, 34, 35, 36, 37, 38, 39, 40, 41, 42, 43, 44, 101, 102, 103, 104, 105, 106, 107, 108] (by decide +kernel) (by decide +kernel)
set_option maxRecDepth 20000 in
theorem gX7_node_X3_canBeParts : GoodIn wsX7_node (wsV RX7 55 RX3 yX3_canBeParts wsX3_canBeParts) := goodIn_app (goodIn_of _ (by decide +kernel)) ggX7_node_X3_canBeParts
theorem dX7_node_30 : decode cX7_node 30 = .ok (.invokevirtual 55, 3) := by decide +kernel
theorem dX7_node_33 : decode cX7_node 33 = .ok (.ifCond .ne 5, 3) := by decide +kernel
theorem dX7_node_38 : decode cX7_node 38 = .ok (.aload_n 0, 1) := by decide +kernel
theorem dX7_node_39 : decode cX7_node 39 = .ok (.getfield 12, 3) := by decide +kernel
set_option maxRecDepth 20000 in
theorem ggX7_node_X3_isFull : GoodIn wsX7_node wsX3_isFull := goodIn_r _ [48, 33, 49, 101, 102, 103, 104, 105, 106, 107, 108] (by decide +kernel) (by decide +kernel)
set_option maxRecDepth 20000 in
theorem gX7_node_X3_isFull : GoodIn wsX7_node (wsV RX7 59 RX3 yX3_isFull wsX3_isFull) := goodIn_app (goodIn_of _ (by decide +kernel)) ggX7_node_X3_isFull
theorem dX7_node_42 : decode cX7_node 42 = .ok (.invokevirtual 59, 3) := by decide +kernel
theorem dX7_node_45 : decode cX7_node 45 = .ok (.ifCond .eq 6, 3) := by decide +kernel
theorem dX7_node_51 : decode cX7_node 51 = .ok (.aload_n 0, 1) := by decide +kernel
theorem dX7_node_52 : decode cX7_node 52 = .ok (.getfield 12, 3) := by decide +kernel
theorem dX7_node_55 : decode cX7_node 55 = .ok (.iload_n 1, 1) := by decide +kernel
theorem dX7_node_56 : decode cX7_node 56 = .ok (.iload_n 2, 1) := by decide +kernel
theorem dX7_node_57 : decode cX7_node 57 = .ok (.iload_n 3, 1) := by decide +kernel
theorem dX7_node_58 : decode cX7_node 58 = .ok (.iload 4, 2) := by decide +kernel
theorem dX7_node_60 : decode cX7_node 60 = .ok (.iload 5, 2) := by decide +kernel
set_option maxRecDepth 20000 in
theorem ggX7_node_X3_addNode : GoodIn wsX7_node wsX3_addNode := goodIn_r _ [53, 33, 49, 54, 28, 55, 56, 57, 10, 11, 4, 12, 58, 59, 60, 37, 61, 39, 44, 62, 63, 64, 65, 66, 67, 68, 69, 70, 71, 72, 73, 74, 75, 76, 77, 78, 79, 80, 81, 17, 18, 6, 19, 3, 5, 82, 83, 84, 85, 86, 87, 88, 89, 90, 91, 92, 40, 41, 42, 43, 93, 94, 95, 96, 101, 102, 103, 104, 105, 106, 107, 108] (by decide +kernel) (by decide +kernel)
set_option maxRecDepth 20000 in
theorem gX7_node_X3_addNode : GoodIn wsX7_node (wsV RX7 63 RX3 yX3_addNode wsX3_addNode) := goodIn_app (goodIn_of _ (by decide +kernel)) ggX7_node_X3_addNode
theorem dX7_node_62 : decode cX7_node 62 = .ok (.invokevirtual 63, 3) := by decide +kernel
theorem dX7_node_65 : decode cX7_node 65 = .ok (.ireturn, 1) := by decide +kernel
theorem dX7_node_36 : decode cX7_node 36 = .ok (.iconst (-1), 1) := by decide +kernel
theorem dX7_node_37 : decode cX7_node 37 = .ok (.ireturn, 1) := by decide +kernel
theorem canB_lt {n : Int32} (h : ¬ p_canB n = 0) : n < 1 := by
  unfold p_canB at h
  by_cases h0 : n < 1
  · exact h0
  · rw [if_neg h0] at h
    exact absurd rfl h

set_option maxHeartbeats 4000000 in
set_option maxRecDepth 100000 in
/-- node, of a fresh object -/
theorem c_x_node (l : Launch) (dC : Nat → ClassId) (dI : Nat → Nat → Nat) (cI : ClassId) (h0 : Nat) (tr : Nat) (ty : Nat) (wk : Nat) (bs : Nat) (td : Nat → Nat) (te : Nat → Nat) (tk : Nat) (kd : Int32) (v : Int32) (na : Int32) (nb : Int32) (nc : Int32) (sz : Nat) : Met l yX7_node wsX7_node ({ frames := 4, cells := 16, slots := 9664, locals := 131 }) (va_Pc [.ref h0, .int kd, .int v, .int na, .int nb, .int nc] (fun U => U.heap.size = sz ∧ va_P (dC, dI) vwCl [(h0, .inr (7, [.ref tr, .ref ty, .ref wk, .ref bs])), (tr, .inr (3, [.ref (td 0), .ref (td 1), .ref (td 2), .ref (td 3), .ref (td 4), .ref (td 5)])), (td 0, .inr (0, [.ref (te 0), .int (nI 0)])), (te 0, .inl (cI, 4, .inl (fun _ => 0))), (td 1, .inr (0, [.ref (te 1), .int (nI 0)])), (te 1, .inl (cI, 4, .inl (fun _ => 0))), (td 2, .inr (0, [.ref (te 2), .int (nI 0)])), (te 2, .inl (cI, 4, .inl (fun _ => 0))), (td 3, .inr (0, [.ref (te 3), .int (nI 0)])), (te 3, .inl (cI, 4, .inl (fun _ => 0))), (td 4, .inr (0, [.ref (te 4), .int (nI 0)])), (te 4, .inl (cI, 4, .inl (fun _ => 0))), (td 5, .inr (0, [.ref (te 5), .int (nI 0)])), (te 5, .inl (cI, 4, .inl (fun _ => 0)))] U.heap ∧ va_K (dC, dI) vwCl [(cI, .int)] U ∧ va_D (fun _ => True) [(h0, .inr (7, [.ref tr, .ref ty, .ref wk, .ref bs])), (tr, .inr (3, [.ref (td 0), .ref (td 1), .ref (td 2), .ref (td 3), .ref (td 4), .ref (td 5)])), (td 0, .inr (0, [.ref (te 0), .int (nI 0)])), (te 0, .inl (cI, 4, .inl (fun _ => 0))), (td 1, .inr (0, [.ref (te 1), .int (nI 0)])), (te 1, .inl (cI, 4, .inl (fun _ => 0))), (td 2, .inr (0, [.ref (te 2), .int (nI 0)])), (te 2, .inl (cI, 4, .inl (fun _ => 0))), (td 3, .inr (0, [.ref (te 3), .int (nI 0)])), (te 3, .inl (cI, 4, .inl (fun _ => 0))), (td 4, .inr (0, [.ref (te 4), .int (nI 0)])), (te 4, .inl (cI, 4, .inl (fun _ => 0))), (td 5, .inr (0, [.ref (te 5), .int (nI 0)])), (te 5, .inl (cI, 4, .inl (fun _ => 0)))] ∧ ZT tk (va_A [(h0, .inr (7, [.ref tr, .ref ty, .ref wk, .ref bs])), (tr, .inr (3, [.ref (td 0), .ref (td 1), .ref (td 2), .ref (td 3), .ref (td 4), .ref (td 5)])), (td 0, .inr (0, [.ref (te 0), .int (nI 0)])), (te 0, .inl (cI, 4, .inl (fun _ => 0))), (td 1, .inr (0, [.ref (te 1), .int (nI 0)])), (te 1, .inl (cI, 4, .inl (fun _ => 0))), (td 2, .inr (0, [.ref (te 2), .int (nI 0)])), (te 2, .inl (cI, 4, .inl (fun _ => 0))), (td 3, .inr (0, [.ref (te 3), .int (nI 0)])), (te 3, .inl (cI, 4, .inl (fun _ => 0))), (td 4, .inr (0, [.ref (te 4), .int (nI 0)])), (te 4, .inl (cI, 4, .inl (fun _ => 0))), (td 5, .inr (0, [.ref (te 5), .int (nI 0)])), (te 5, .inl (cI, 4, .inl (fun _ => 0)))] sz) U U.heap)) (va_Qi (fun (r : Int32) (_ : Unit) => r = p_node kd v) (fun (_ : Unit) (t : State) => va_P (dC, dI) vwCl [] t.heap ∧ va_K (dC, dI) vwCl [(cI, .int)] t ∧ va_D (va_A [(h0, .inr (7, [.ref tr, .ref ty, .ref wk, .ref bs])), (tr, .inr (3, [.ref (td 0), .ref (td 1), .ref (td 2), .ref (td 3), .ref (td 4), .ref (td 5)])), (td 0, .inr (0, [.ref (te 0), .int (nI 0)])), (te 0, .inl (cI, 4, .inl (fun _ => 0))), (td 1, .inr (0, [.ref (te 1), .int (nI 0)])), (te 1, .inl (cI, 4, .inl (fun _ => 0))), (td 2, .inr (0, [.ref (te 2), .int (nI 0)])), (te 2, .inl (cI, 4, .inl (fun _ => 0))), (td 3, .inr (0, [.ref (te 3), .int (nI 0)])), (te 3, .inl (cI, 4, .inl (fun _ => 0))), (td 4, .inr (0, [.ref (te 4), .int (nI 0)])), (te 4, .inl (cI, 4, .inl (fun _ => 0))), (td 5, .inr (0, [.ref (te 5), .int (nI 0)])), (te 5, .inl (cI, 4, .inl (fun _ => 0)))] sz) []) (va_A [(h0, .inr (7, [.ref tr, .ref ty, .ref wk, .ref bs])), (tr, .inr (3, [.ref (td 0), .ref (td 1), .ref (td 2), .ref (td 3), .ref (td 4), .ref (td 5)])), (td 0, .inr (0, [.ref (te 0), .int (nI 0)])), (te 0, .inl (cI, 4, .inl (fun _ => 0))), (td 1, .inr (0, [.ref (te 1), .int (nI 0)])), (te 1, .inl (cI, 4, .inl (fun _ => 0))), (td 2, .inr (0, [.ref (te 2), .int (nI 0)])), (te 2, .inl (cI, 4, .inl (fun _ => 0))), (td 3, .inr (0, [.ref (te 3), .int (nI 0)])), (te 3, .inl (cI, 4, .inl (fun _ => 0))), (td 4, .inr (0, [.ref (te 4), .int (nI 0)])), (te 4, .inl (cI, 4, .inl (fun _ => 0))), (td 5, .inr (0, [.ref (te 5), .int (nI 0)])), (te 5, .inl (cI, 4, .inl (fun _ => 0)))] sz)) 16 9664 (va_A [(h0, .inr (7, [.ref tr, .ref ty, .ref wk, .ref bs])), (tr, .inr (3, [.ref (td 0), .ref (td 1), .ref (td 2), .ref (td 3), .ref (td 4), .ref (td 5)])), (td 0, .inr (0, [.ref (te 0), .int (nI 0)])), (te 0, .inl (cI, 4, .inl (fun _ => 0))), (td 1, .inr (0, [.ref (te 1), .int (nI 0)])), (te 1, .inl (cI, 4, .inl (fun _ => 0))), (td 2, .inr (0, [.ref (te 2), .int (nI 0)])), (te 2, .inl (cI, 4, .inl (fun _ => 0))), (td 3, .inr (0, [.ref (te 3), .int (nI 0)])), (te 3, .inl (cI, 4, .inl (fun _ => 0))), (td 4, .inr (0, [.ref (te 4), .int (nI 0)])), (te 4, .inl (cI, 4, .inl (fun _ => 0))), (td 5, .inr (0, [.ref (te 5), .int (nI 0)])), (te 5, .inl (cI, 4, .inl (fun _ => 0)))] sz) := by
  refine Met.ofW (cc := cX7_node) (maxL := 6) (ret := (some .int)) (by decide) rfl ?_
  intro p e s m args below meth c s₁ B hml hv
  obtain ⟨rfl, hsz, hP, hK, hD0, hZ⟩ := hv
  have hx := B.exec
  have hb := B.bytes
  have hr := B.returns
  have hts := atoms_spec (ws := wsX7_node) B.pre
  have hown : s.vm.findClass RX7 = some m.cls := findClass_of_methodNamed B.named
  have hlocks := B.notSynchronized
  subst hsz
  have hD := hD0.self (sz := s.heap.size)
  generalize hAe : va_A [(h0, .inr (7, [.ref tr, .ref ty, .ref wk, .ref bs])), (tr, .inr (3, [.ref (td 0), .ref (td 1), .ref (td 2), .ref (td 3), .ref (td 4), .ref (td 5)])), (td 0, .inr (0, [.ref (te 0), .int (nI 0)])), (te 0, .inl (cI, 4, .inl (fun _ => 0))), (td 1, .inr (0, [.ref (te 1), .int (nI 0)])), (te 1, .inl (cI, 4, .inl (fun _ => 0))), (td 2, .inr (0, [.ref (te 2), .int (nI 0)])), (te 2, .inl (cI, 4, .inl (fun _ => 0))), (td 3, .inr (0, [.ref (te 3), .int (nI 0)])), (te 3, .inl (cI, 4, .inl (fun _ => 0))), (td 4, .inr (0, [.ref (te 4), .int (nI 0)])), (te 4, .inl (cI, 4, .inl (fun _ => 0))), (td 5, .inr (0, [.ref (te 5), .int (nI 0)])), (te 5, .inl (cI, 4, .inl (fun _ => 0)))] s.heap.size = A at hD hZ ⊢
  have hA : ∀ q : Nat, s.heap.size ≤ q → A q := fun q h => by rw [← hAe]; exact Or.inr h
  have hS : va_S A s.heap s.heap [] := va_S.rf
  have hP : va_P (dC, dI) vwCl [(h0, .inr (7, [.ref tr, .ref ty, .ref wk, .ref bs])), (tr, .inr (3, [.ref (td 0), .ref (td 1), .ref (td 2), .ref (td 3), .ref (td 4), .ref (td 5)])), (td 0, .inr (0, [.ref (te 0), .int (nI 0)])), (te 0, .inl (cI, 4, .inl (fun _ => 0))), (td 1, .inr (0, [.ref (te 1), .int (nI 0)])), (te 1, .inl (cI, 4, .inl (fun _ => 0))), (td 2, .inr (0, [.ref (te 2), .int (nI 0)])), (te 2, .inl (cI, 4, .inl (fun _ => 0))), (td 3, .inr (0, [.ref (te 3), .int (nI 0)])), (te 3, .inl (cI, 4, .inl (fun _ => 0))), (td 4, .inr (0, [.ref (te 4), .int (nI 0)])), (te 4, .inl (cI, 4, .inl (fun _ => 0))), (td 5, .inr (0, [.ref (te 5), .int (nI 0)])), (te 5, .inl (cI, 4, .inl (fun _ => 0)))] s.heap := hP
  have hl := lv_entry ([.ref h0, .int kd, .int v, .int na, .int nb, .int nc]) (n := 6) (Nat.le_of_ble_eq_true rfl)
  rw [lg_entry_eq]
  generalize (lg_sl ([.ref h0, .int kd, .int v, .int na, .int nb, .int nc]) ++ List.replicate (6 - (lg_sl ([.ref h0, .int kd, .int v, .int na, .int nb, .int nc])).length) Slot.unset).toArray = ls at hl ⊢
  have hl : lv_has ls 6 [(0, .ref h0), (1, .int kd), (2, .int v), (3, .int na), (4, .int nb), (5, .int nc)] := hl
  obtain ⟨H, hHe⟩ : ∃ H : Heap, H = s.heap := ⟨_, rfl⟩
  rw [← hHe] at hP ⊢
  have hS : va_S A s.heap H [] := by rw [hHe]; exact va_S.rf
  refine lv_iload_n hx hb dX7_node_0 rfl (lv_at hl 1 rfl) ?_
  have hPc := hP.sub (ws' := []) [] rfl
  have hDc := hD.sub (ws' := []) [] (by decide) rfl
  have hFc := va_free (wc := []) hD hS hA [] rfl
  refine va_calli (va_runS (As := [.int kd]) (rest := []) ⟨hx, hb, hml, hown, hts⟩ (c_isKind l dC dI cI tk kd H.size) (va_cwS 1 hts gX7_node_X3_isKind rfl rfl rfl (by decide +kernel) ⟨Nat.le_of_ble_eq_true rfl, Nat.le_of_ble_eq_true rfl⟩) ⟨fun a U g mk q => by obtain ⟨q0, q1, qP, qK, qD, qZ⟩ := q; exact ⟨q0, q1, qP, va_K.moved (u := U) (U := U.calling g mk a) (Vm.Alike.refl U.vm) qK, qD, qZ.calling g mk a⟩, fun U hU hW => ⟨rfl, by rw [hU], by rw [hU]; exact hPc, va_K.moved hW.alike hK, hDc.weaken (fun _ _ _ _ => trivial), ZT.call hZ hS hU hW hFc⟩⟩ rfl rfl hl.1 rfl (lv_room (Nat.le_of_ble_eq_true rfl)) dX7_node_1 ⟨Nat.le_of_ble_eq_true rfl, Nat.le_of_ble_eq_true rfl⟩) hS (fun q _ h => hFc q h) hFc (fun r_1 u t H1 locs ht hvm hw hB hz1 hk1 hS => ?_)
  obtain ⟨hP1, hK1, hD1⟩ := hB
  rw [ht] at hP1
  obtain ⟨hP, hD⟩ := va_join (wr := [(h0, .inr (7, [.ref tr, .ref ty, .ref wk, .ref bs])), (tr, .inr (3, [.ref (td 0), .ref (td 1), .ref (td 2), .ref (td 3), .ref (td 4), .ref (td 5)])), (td 0, .inr (0, [.ref (te 0), .int (nI 0)])), (te 0, .inl (cI, 4, .inl (fun _ => 0))), (td 1, .inr (0, [.ref (te 1), .int (nI 0)])), (te 1, .inl (cI, 4, .inl (fun _ => 0))), (td 2, .inr (0, [.ref (te 2), .int (nI 0)])), (te 2, .inl (cI, 4, .inl (fun _ => 0))), (td 3, .inr (0, [.ref (te 3), .int (nI 0)])), (te 3, .inl (cI, 4, .inl (fun _ => 0))), (td 4, .inr (0, [.ref (te 4), .int (nI 0)])), (te 4, .inl (cI, 4, .inl (fun _ => 0))), (td 5, .inr (0, [.ref (te 5), .int (nI 0)])), (te 5, .inl (cI, 4, .inl (fun _ => 0)))]) (w1 := []) hP hD [] [0, 1, 2, 3, 4, 5, 6, 7, 8, 9, 10, 11, 12, 13] rfl rfl (by decide) (by decide) hk1 hFc hP1 hD1
  generalize H1 = H at hP hS ⊢
  obtain rfl : r_1 = p_isK kd := hw
  have hP : va_P (dC, dI) vwCl [(h0, .inr (7, [.ref tr, .ref ty, .ref wk, .ref bs])), (tr, .inr (3, [.ref (td 0), .ref (td 1), .ref (td 2), .ref (td 3), .ref (td 4), .ref (td 5)])), (td 0, .inr (0, [.ref (te 0), .int (nI 0)])), (te 0, .inl (cI, 4, .inl (fun _ => 0))), (td 1, .inr (0, [.ref (te 1), .int (nI 0)])), (te 1, .inl (cI, 4, .inl (fun _ => 0))), (td 2, .inr (0, [.ref (te 2), .int (nI 0)])), (te 2, .inl (cI, 4, .inl (fun _ => 0))), (td 3, .inr (0, [.ref (te 3), .int (nI 0)])), (te 3, .inl (cI, 4, .inl (fun _ => 0))), (td 4, .inr (0, [.ref (te 4), .int (nI 0)])), (te 4, .inl (cI, 4, .inl (fun _ => 0))), (td 5, .inr (0, [.ref (te 5), .int (nI 0)])), (te 5, .inl (cI, 4, .inl (fun _ => 0)))] H := hP
  have hD : va_D A [(h0, .inr (7, [.ref tr, .ref ty, .ref wk, .ref bs])), (tr, .inr (3, [.ref (td 0), .ref (td 1), .ref (td 2), .ref (td 3), .ref (td 4), .ref (td 5)])), (td 0, .inr (0, [.ref (te 0), .int (nI 0)])), (te 0, .inl (cI, 4, .inl (fun _ => 0))), (td 1, .inr (0, [.ref (te 1), .int (nI 0)])), (te 1, .inl (cI, 4, .inl (fun _ => 0))), (td 2, .inr (0, [.ref (te 2), .int (nI 0)])), (te 2, .inl (cI, 4, .inl (fun _ => 0))), (td 3, .inr (0, [.ref (te 3), .int (nI 0)])), (te 3, .inl (cI, 4, .inl (fun _ => 0))), (td 4, .inr (0, [.ref (te 4), .int (nI 0)])), (te 4, .inl (cI, 4, .inl (fun _ => 0))), (td 5, .inr (0, [.ref (te 5), .int (nI 0)])), (te 5, .inl (cI, 4, .inl (fun _ => 0)))] := hD
  refine W.widen (k := 0) (n := 0) (Nat.le_of_ble_eq_true rfl) (Nat.le_of_ble_eq_true rfl) ?_
  refine lv_if_eq (tgt := 15) hx hb dX7_node_4 (by decide) (fun c_2 => ?_) (fun c_2 => ?_)
  · skip
    refine lv_iconst (v := (-1)) hx hb dX7_node_15 (by decide) ?_
    have hP9 := hP.sub (ws' := []) [] rfl
    have hD9 := hD.sub (ws' := []) [] (by decide) rfl
    refine W.widen (k := 16) (n := 9664) (Nat.le_of_ble_eq_true rfl) (Nat.le_of_ble_eq_true rfl) ?_
    exact W.iret (v := (-1)) hx hb hr (fun t ht hW => ⟨⟨(-1), (), rfl, (by simp only [p_node, if_pos c_2]), by rw [ht]; exact hP9, va_K.moved hW.alike hK, hD9⟩, hS.F ht⟩) hS.2.2 dX7_node_16
  · skip
    refine lv_iload_n hx hb dX7_node_7 rfl (lv_at hl 1 rfl) ?_
    refine lv_iload_n hx hb dX7_node_8 rfl (lv_at hl 2 rfl) ?_
    have hPc := hP.sub (ws' := []) [] rfl
    have hDc := hD.sub (ws' := []) [] (by decide) rfl
    have hFc := va_free (wc := []) hD hS hA [] rfl
    refine va_calli (va_runS (As := [.int kd, .int v]) (rest := []) ⟨hx, hb, hml, hown, hts⟩ (c_isFitting l dC dI cI kd v H.size) (va_cwS 2 hts gX7_node_X3_isFitting rfl rfl rfl (by decide +kernel) ⟨Nat.le_of_ble_eq_true rfl, Nat.le_of_ble_eq_true rfl⟩) ⟨fun a U g mk q => by obtain ⟨q0, q1, qP, qK, qD⟩ := q; exact ⟨q0, q1, qP, va_K.moved (u := U) (U := U.calling g mk a) (Vm.Alike.refl U.vm) qK, qD⟩, fun U hU hW => ⟨rfl, by rw [hU], by rw [hU]; exact hPc, va_K.moved hW.alike hK, hDc.weaken (fun _ _ _ _ => trivial)⟩⟩ rfl rfl hl.1 rfl (lv_room (Nat.le_of_ble_eq_true rfl)) dX7_node_9 ⟨Nat.le_of_ble_eq_true rfl, Nat.le_of_ble_eq_true rfl⟩) hS (fun q _ h => hFc q h) hFc (fun r_3 u t H1 locs ht hvm hw hB hz1 hk1 hS => ?_)
    obtain ⟨hP1, hK1, hD1⟩ := hB
    rw [ht] at hP1
    obtain ⟨hP, hD⟩ := va_join (wr := [(h0, .inr (7, [.ref tr, .ref ty, .ref wk, .ref bs])), (tr, .inr (3, [.ref (td 0), .ref (td 1), .ref (td 2), .ref (td 3), .ref (td 4), .ref (td 5)])), (td 0, .inr (0, [.ref (te 0), .int (nI 0)])), (te 0, .inl (cI, 4, .inl (fun _ => 0))), (td 1, .inr (0, [.ref (te 1), .int (nI 0)])), (te 1, .inl (cI, 4, .inl (fun _ => 0))), (td 2, .inr (0, [.ref (te 2), .int (nI 0)])), (te 2, .inl (cI, 4, .inl (fun _ => 0))), (td 3, .inr (0, [.ref (te 3), .int (nI 0)])), (te 3, .inl (cI, 4, .inl (fun _ => 0))), (td 4, .inr (0, [.ref (te 4), .int (nI 0)])), (te 4, .inl (cI, 4, .inl (fun _ => 0))), (td 5, .inr (0, [.ref (te 5), .int (nI 0)])), (te 5, .inl (cI, 4, .inl (fun _ => 0)))]) (w1 := []) hP hD [] [0, 1, 2, 3, 4, 5, 6, 7, 8, 9, 10, 11, 12, 13] rfl rfl (by decide) (by decide) hk1 hFc hP1 hD1
    generalize H1 = H at hP hS ⊢
    obtain rfl : r_3 = p_fit kd v := hw
    have hP : va_P (dC, dI) vwCl [(h0, .inr (7, [.ref tr, .ref ty, .ref wk, .ref bs])), (tr, .inr (3, [.ref (td 0), .ref (td 1), .ref (td 2), .ref (td 3), .ref (td 4), .ref (td 5)])), (td 0, .inr (0, [.ref (te 0), .int (nI 0)])), (te 0, .inl (cI, 4, .inl (fun _ => 0))), (td 1, .inr (0, [.ref (te 1), .int (nI 0)])), (te 1, .inl (cI, 4, .inl (fun _ => 0))), (td 2, .inr (0, [.ref (te 2), .int (nI 0)])), (te 2, .inl (cI, 4, .inl (fun _ => 0))), (td 3, .inr (0, [.ref (te 3), .int (nI 0)])), (te 3, .inl (cI, 4, .inl (fun _ => 0))), (td 4, .inr (0, [.ref (te 4), .int (nI 0)])), (te 4, .inl (cI, 4, .inl (fun _ => 0))), (td 5, .inr (0, [.ref (te 5), .int (nI 0)])), (te 5, .inl (cI, 4, .inl (fun _ => 0)))] H := hP
    have hD : va_D A [(h0, .inr (7, [.ref tr, .ref ty, .ref wk, .ref bs])), (tr, .inr (3, [.ref (td 0), .ref (td 1), .ref (td 2), .ref (td 3), .ref (td 4), .ref (td 5)])), (td 0, .inr (0, [.ref (te 0), .int (nI 0)])), (te 0, .inl (cI, 4, .inl (fun _ => 0))), (td 1, .inr (0, [.ref (te 1), .int (nI 0)])), (te 1, .inl (cI, 4, .inl (fun _ => 0))), (td 2, .inr (0, [.ref (te 2), .int (nI 0)])), (te 2, .inl (cI, 4, .inl (fun _ => 0))), (td 3, .inr (0, [.ref (te 3), .int (nI 0)])), (te 3, .inl (cI, 4, .inl (fun _ => 0))), (td 4, .inr (0, [.ref (te 4), .int (nI 0)])), (te 4, .inl (cI, 4, .inl (fun _ => 0))), (td 5, .inr (0, [.ref (te 5), .int (nI 0)])), (te 5, .inl (cI, 4, .inl (fun _ => 0)))] := hD
    refine W.widen (k := 0) (n := 0) (Nat.le_of_ble_eq_true rfl) (Nat.le_of_ble_eq_true rfl) ?_
    refine lv_if_ne (tgt := 17) hx hb dX7_node_12 (by decide) (fun c_4 => ?_) (fun c_4 => ?_)
    · skip
      refine lv_aload_n hx hb dX7_node_17 rfl (lv_at hl 0 rfl) ?_
      refine va_get (D := (dC, dI)) (ci := 7) (v := .ref tr) (C := RX7) (T := TX7) (N := 4) hx hb hts (fun w h => List.mem_cons_of_mem _ (List.mem_append_left _ (List.mem_append_left _ (List.mem_append_right _ h)))) hown hK hP 0 rfl rfl 0 (by decide) (hts (.fieldLink RX7 12 "PolarTypes" "tree" "LPolarTypes$Tree;") (List.mem_of_getElem? (i := 1) (by decide +kernel))) (fun _ h9 => h9) rfl dX7_node_18 ?_
      refine lv_iload_n hx hb dX7_node_21 rfl (lv_at hl 1 rfl) ?_
      have hPc := hP.sub (ws' := []) [] rfl
      have hDc := hD.sub (ws' := []) [] (by decide) rfl
      have hFc := va_free (wc := []) hD hS hA [] rfl
      refine va_calli (va_runS (As := [.int kd]) (rest := [.ref tr]) ⟨hx, hb, hml, hown, hts⟩ (c_partsOfKind l dC dI cI tk kd H.size) (va_cwS 1 hts gX7_node_X3_partsOfKind rfl rfl rfl (by decide +kernel) ⟨Nat.le_of_ble_eq_true rfl, Nat.le_of_ble_eq_true rfl⟩) ⟨fun a U g mk q => by obtain ⟨q0, q1, qP, qK, qD, qZ⟩ := q; exact ⟨q0, q1, qP, va_K.moved (u := U) (U := U.calling g mk a) (Vm.Alike.refl U.vm) qK, qD, qZ.calling g mk a⟩, fun U hU hW => ⟨rfl, by rw [hU], by rw [hU]; exact hPc, va_K.moved hW.alike hK, hDc.weaken (fun _ _ _ _ => trivial), ZT.call hZ hS hU hW hFc⟩⟩ rfl rfl hl.1 rfl (lv_room (Nat.le_of_ble_eq_true rfl)) dX7_node_22 ⟨Nat.le_of_ble_eq_true rfl, Nat.le_of_ble_eq_true rfl⟩) hS (fun q _ h => hFc q h) hFc (fun r_5 u t H1 locs ht hvm hw hB hz1 hk1 hS => ?_)
      obtain ⟨hP1, hK1, hD1⟩ := hB
      rw [ht] at hP1
      obtain ⟨hP, hD⟩ := va_join (wr := [(h0, .inr (7, [.ref tr, .ref ty, .ref wk, .ref bs])), (tr, .inr (3, [.ref (td 0), .ref (td 1), .ref (td 2), .ref (td 3), .ref (td 4), .ref (td 5)])), (td 0, .inr (0, [.ref (te 0), .int (nI 0)])), (te 0, .inl (cI, 4, .inl (fun _ => 0))), (td 1, .inr (0, [.ref (te 1), .int (nI 0)])), (te 1, .inl (cI, 4, .inl (fun _ => 0))), (td 2, .inr (0, [.ref (te 2), .int (nI 0)])), (te 2, .inl (cI, 4, .inl (fun _ => 0))), (td 3, .inr (0, [.ref (te 3), .int (nI 0)])), (te 3, .inl (cI, 4, .inl (fun _ => 0))), (td 4, .inr (0, [.ref (te 4), .int (nI 0)])), (te 4, .inl (cI, 4, .inl (fun _ => 0))), (td 5, .inr (0, [.ref (te 5), .int (nI 0)])), (te 5, .inl (cI, 4, .inl (fun _ => 0)))]) (w1 := []) hP hD [] [0, 1, 2, 3, 4, 5, 6, 7, 8, 9, 10, 11, 12, 13] rfl rfl (by decide) (by decide) hk1 hFc hP1 hD1
      generalize H1 = H at hP hS ⊢
      obtain rfl : r_5 = p_parts kd := hw
      have hP : va_P (dC, dI) vwCl [(h0, .inr (7, [.ref tr, .ref ty, .ref wk, .ref bs])), (tr, .inr (3, [.ref (td 0), .ref (td 1), .ref (td 2), .ref (td 3), .ref (td 4), .ref (td 5)])), (td 0, .inr (0, [.ref (te 0), .int (nI 0)])), (te 0, .inl (cI, 4, .inl (fun _ => 0))), (td 1, .inr (0, [.ref (te 1), .int (nI 0)])), (te 1, .inl (cI, 4, .inl (fun _ => 0))), (td 2, .inr (0, [.ref (te 2), .int (nI 0)])), (te 2, .inl (cI, 4, .inl (fun _ => 0))), (td 3, .inr (0, [.ref (te 3), .int (nI 0)])), (te 3, .inl (cI, 4, .inl (fun _ => 0))), (td 4, .inr (0, [.ref (te 4), .int (nI 0)])), (te 4, .inl (cI, 4, .inl (fun _ => 0))), (td 5, .inr (0, [.ref (te 5), .int (nI 0)])), (te 5, .inl (cI, 4, .inl (fun _ => 0)))] H := hP
      have hD : va_D A [(h0, .inr (7, [.ref tr, .ref ty, .ref wk, .ref bs])), (tr, .inr (3, [.ref (td 0), .ref (td 1), .ref (td 2), .ref (td 3), .ref (td 4), .ref (td 5)])), (td 0, .inr (0, [.ref (te 0), .int (nI 0)])), (te 0, .inl (cI, 4, .inl (fun _ => 0))), (td 1, .inr (0, [.ref (te 1), .int (nI 0)])), (te 1, .inl (cI, 4, .inl (fun _ => 0))), (td 2, .inr (0, [.ref (te 2), .int (nI 0)])), (te 2, .inl (cI, 4, .inl (fun _ => 0))), (td 3, .inr (0, [.ref (te 3), .int (nI 0)])), (te 3, .inl (cI, 4, .inl (fun _ => 0))), (td 4, .inr (0, [.ref (te 4), .int (nI 0)])), (te 4, .inl (cI, 4, .inl (fun _ => 0))), (td 5, .inr (0, [.ref (te 5), .int (nI 0)])), (te 5, .inl (cI, 4, .inl (fun _ => 0)))] := hD
      refine W.widen (k := 0) (n := 0) (Nat.le_of_ble_eq_true rfl) (Nat.le_of_ble_eq_true rfl) ?_
      refine lv_iload_n hx hb dX7_node_25 rfl (lv_at hl 3 rfl) ?_
      refine lv_iload hx hb dX7_node_26 (lv_at hl 4 rfl) ?_
      refine lv_iload hx hb dX7_node_28 (lv_at hl 5 rfl) ?_
      have hPc := hP.sub (ws' := [(tr, .inr (3, [.ref (td 0), .ref (td 1), .ref (td 2), .ref (td 3), .ref (td 4), .ref (td 5)])), (td 0, .inr (0, [.ref (te 0), .int (nI 0)]))]) [1, 2] rfl
      have hDc := hD.sub (ws' := [(tr, .inr (3, [.ref (td 0), .ref (td 1), .ref (td 2), .ref (td 3), .ref (td 4), .ref (td 5)])), (td 0, .inr (0, [.ref (te 0), .int (nI 0)]))]) [1, 2] (by decide) rfl
      have hFc := va_free (wc := [(tr, .inr (3, [.ref (td 0), .ref (td 1), .ref (td 2), .ref (td 3), .ref (td 4), .ref (td 5)])), (td 0, .inr (0, [.ref (te 0), .int (nI 0)]))]) hD hS hA [1, 2] rfl
      refine va_calli (va_runV (As := [.int (p_parts kd), .int na, .int nb, .int nc]) (rest := []) ⟨hx, hb, hml, hown, hts⟩ (c_canBe0 l dC dI cI tr td (te 0) (p_parts kd) na nb nc H.size) (cwV 4 hts gX7_node_X3_canBeParts rfl rfl rfl (by decide +kernel) ⟨Nat.le_of_ble_eq_true rfl, Nat.le_of_ble_eq_true rfl⟩) ⟨fun a U g mk q => by obtain ⟨q0, q1, qP, qK, qD⟩ := q; exact ⟨q0, q1, qP, va_K.moved (u := U) (U := U.calling g mk a) (Vm.Alike.refl U.vm) qK, qD⟩, va_recv hK hPc (ci := 3) (q0 := 0) rfl rfl, fun U hU hW => ⟨rfl, by rw [hU], by rw [hU]; exact hPc, va_K.moved hW.alike hK, hDc.weaken (fun _ _ _ _ => trivial)⟩⟩ rfl rfl hl.1 rfl (lv_room (Nat.le_of_ble_eq_true rfl)) dX7_node_30 ⟨Nat.le_of_ble_eq_true rfl, Nat.le_of_ble_eq_true rfl⟩) hS (fun q _ h => hFc q h) hFc (fun r_6 u t H1 locs ht hvm hw hB hz1 hk1 hS => ?_)
      obtain ⟨hP1, hK1, hD1⟩ := hB
      rw [ht] at hP1
      obtain ⟨hP, hD⟩ := va_join (wr := [(h0, .inr (7, [.ref tr, .ref ty, .ref wk, .ref bs])), (te 0, .inl (cI, 4, .inl (fun _ => 0))), (td 1, .inr (0, [.ref (te 1), .int (nI 0)])), (te 1, .inl (cI, 4, .inl (fun _ => 0))), (td 2, .inr (0, [.ref (te 2), .int (nI 0)])), (te 2, .inl (cI, 4, .inl (fun _ => 0))), (td 3, .inr (0, [.ref (te 3), .int (nI 0)])), (te 3, .inl (cI, 4, .inl (fun _ => 0))), (td 4, .inr (0, [.ref (te 4), .int (nI 0)])), (te 4, .inl (cI, 4, .inl (fun _ => 0))), (td 5, .inr (0, [.ref (te 5), .int (nI 0)])), (te 5, .inl (cI, 4, .inl (fun _ => 0)))]) (w1 := [(tr, .inr (3, [.ref (td 0), .ref (td 1), .ref (td 2), .ref (td 3), .ref (td 4), .ref (td 5)])), (td 0, .inr (0, [.ref (te 0), .int (nI 0)]))]) hP hD [1, 2] [0, 3, 4, 5, 6, 7, 8, 9, 10, 11, 12, 13] rfl rfl (by decide) (by decide) hk1 hFc hP1 hD1
      generalize H1 = H at hP hS ⊢
      obtain rfl : r_6 = p_canB (p_parts kd) := hw
      have hP : va_P (dC, dI) vwCl [(h0, .inr (7, [.ref tr, .ref ty, .ref wk, .ref bs])), (te 0, .inl (cI, 4, .inl (fun _ => 0))), (td 1, .inr (0, [.ref (te 1), .int (nI 0)])), (te 1, .inl (cI, 4, .inl (fun _ => 0))), (td 2, .inr (0, [.ref (te 2), .int (nI 0)])), (te 2, .inl (cI, 4, .inl (fun _ => 0))), (td 3, .inr (0, [.ref (te 3), .int (nI 0)])), (te 3, .inl (cI, 4, .inl (fun _ => 0))), (td 4, .inr (0, [.ref (te 4), .int (nI 0)])), (te 4, .inl (cI, 4, .inl (fun _ => 0))), (td 5, .inr (0, [.ref (te 5), .int (nI 0)])), (te 5, .inl (cI, 4, .inl (fun _ => 0))), (tr, .inr (3, [.ref (td 0), .ref (td 1), .ref (td 2), .ref (td 3), .ref (td 4), .ref (td 5)])), (td 0, .inr (0, [.ref (te 0), .int (nI 0)]))] H := hP
      have hD : va_D A [(h0, .inr (7, [.ref tr, .ref ty, .ref wk, .ref bs])), (te 0, .inl (cI, 4, .inl (fun _ => 0))), (td 1, .inr (0, [.ref (te 1), .int (nI 0)])), (te 1, .inl (cI, 4, .inl (fun _ => 0))), (td 2, .inr (0, [.ref (te 2), .int (nI 0)])), (te 2, .inl (cI, 4, .inl (fun _ => 0))), (td 3, .inr (0, [.ref (te 3), .int (nI 0)])), (te 3, .inl (cI, 4, .inl (fun _ => 0))), (td 4, .inr (0, [.ref (te 4), .int (nI 0)])), (te 4, .inl (cI, 4, .inl (fun _ => 0))), (td 5, .inr (0, [.ref (te 5), .int (nI 0)])), (te 5, .inl (cI, 4, .inl (fun _ => 0))), (tr, .inr (3, [.ref (td 0), .ref (td 1), .ref (td 2), .ref (td 3), .ref (td 4), .ref (td 5)])), (td 0, .inr (0, [.ref (te 0), .int (nI 0)]))] := hD
      refine W.widen (k := 0) (n := 0) (Nat.le_of_ble_eq_true rfl) (Nat.le_of_ble_eq_true rfl) ?_
      refine lv_if_ne (tgt := 38) hx hb dX7_node_33 (by decide) (fun c_7 => ?_) (fun c_7 => ?_)
      · skip
        refine lv_aload_n hx hb dX7_node_38 rfl (lv_at hl 0 rfl) ?_
        refine va_get (D := (dC, dI)) (ci := 7) (v := .ref tr) (C := RX7) (T := TX7) (N := 4) hx hb hts (fun w h => List.mem_cons_of_mem _ (List.mem_append_left _ (List.mem_append_left _ (List.mem_append_right _ h)))) hown hK hP 0 rfl rfl 0 (by decide) (hts (.fieldLink RX7 12 "PolarTypes" "tree" "LPolarTypes$Tree;") (List.mem_of_getElem? (i := 1) (by decide +kernel))) (fun _ h9 => h9) rfl dX7_node_39 ?_
        have hPc := hP.sub (ws' := [(tr, .inr (3, [.ref (td 0), .ref (td 1), .ref (td 2), .ref (td 3), .ref (td 4), .ref (td 5)])), (td 0, .inr (0, [.ref (te 0), .int (nI 0)]))]) [12, 13] rfl
        have hDc := hD.sub (ws' := [(tr, .inr (3, [.ref (td 0), .ref (td 1), .ref (td 2), .ref (td 3), .ref (td 4), .ref (td 5)])), (td 0, .inr (0, [.ref (te 0), .int (nI 0)]))]) [12, 13] (by decide) rfl
        have hFc := va_free (wc := [(tr, .inr (3, [.ref (td 0), .ref (td 1), .ref (td 2), .ref (td 3), .ref (td 4), .ref (td 5)])), (td 0, .inr (0, [.ref (te 0), .int (nI 0)]))]) hD hS hA [12, 13] rfl
        refine va_calli (va_runV (As := []) (rest := []) ⟨hx, hb, hml, hown, hts⟩ (c_isFull0 l dC dI cI tr td (te 0) H.size) (cwV 0 hts gX7_node_X3_isFull rfl rfl rfl (by decide +kernel) ⟨Nat.le_of_ble_eq_true rfl, Nat.le_of_ble_eq_true rfl⟩) ⟨fun a U g mk q => by obtain ⟨q0, q1, qP, qK, qD⟩ := q; exact ⟨q0, q1, qP, va_K.moved (u := U) (U := U.calling g mk a) (Vm.Alike.refl U.vm) qK, qD⟩, va_recv hK hPc (ci := 3) (q0 := 0) rfl rfl, fun U hU hW => ⟨rfl, by rw [hU], by rw [hU]; exact hPc, va_K.moved hW.alike hK, hDc.weaken (fun _ _ _ _ => trivial)⟩⟩ rfl rfl hl.1 rfl (lv_room (Nat.le_of_ble_eq_true rfl)) dX7_node_42 ⟨Nat.le_of_ble_eq_true rfl, Nat.le_of_ble_eq_true rfl⟩) hS (fun q _ h => hFc q h) hFc (fun r_8 u t H1 locs ht hvm hw hB hz1 hk1 hS => ?_)
        obtain ⟨hP1, hK1, hD1⟩ := hB
        rw [ht] at hP1
        obtain ⟨hP, hD⟩ := va_join (wr := [(h0, .inr (7, [.ref tr, .ref ty, .ref wk, .ref bs])), (te 0, .inl (cI, 4, .inl (fun _ => 0))), (td 1, .inr (0, [.ref (te 1), .int (nI 0)])), (te 1, .inl (cI, 4, .inl (fun _ => 0))), (td 2, .inr (0, [.ref (te 2), .int (nI 0)])), (te 2, .inl (cI, 4, .inl (fun _ => 0))), (td 3, .inr (0, [.ref (te 3), .int (nI 0)])), (te 3, .inl (cI, 4, .inl (fun _ => 0))), (td 4, .inr (0, [.ref (te 4), .int (nI 0)])), (te 4, .inl (cI, 4, .inl (fun _ => 0))), (td 5, .inr (0, [.ref (te 5), .int (nI 0)])), (te 5, .inl (cI, 4, .inl (fun _ => 0)))]) (w1 := [(tr, .inr (3, [.ref (td 0), .ref (td 1), .ref (td 2), .ref (td 3), .ref (td 4), .ref (td 5)])), (td 0, .inr (0, [.ref (te 0), .int (nI 0)]))]) hP hD [12, 13] [0, 1, 2, 3, 4, 5, 6, 7, 8, 9, 10, 11] rfl rfl (by decide) (by decide) hk1 hFc hP1 hD1
        generalize H1 = H at hP hS ⊢
        obtain rfl : r_8 = 0 := hw
        have hP : va_P (dC, dI) vwCl [(h0, .inr (7, [.ref tr, .ref ty, .ref wk, .ref bs])), (te 0, .inl (cI, 4, .inl (fun _ => 0))), (td 1, .inr (0, [.ref (te 1), .int (nI 0)])), (te 1, .inl (cI, 4, .inl (fun _ => 0))), (td 2, .inr (0, [.ref (te 2), .int (nI 0)])), (te 2, .inl (cI, 4, .inl (fun _ => 0))), (td 3, .inr (0, [.ref (te 3), .int (nI 0)])), (te 3, .inl (cI, 4, .inl (fun _ => 0))), (td 4, .inr (0, [.ref (te 4), .int (nI 0)])), (te 4, .inl (cI, 4, .inl (fun _ => 0))), (td 5, .inr (0, [.ref (te 5), .int (nI 0)])), (te 5, .inl (cI, 4, .inl (fun _ => 0))), (tr, .inr (3, [.ref (td 0), .ref (td 1), .ref (td 2), .ref (td 3), .ref (td 4), .ref (td 5)])), (td 0, .inr (0, [.ref (te 0), .int (nI 0)]))] H := hP
        have hD : va_D A [(h0, .inr (7, [.ref tr, .ref ty, .ref wk, .ref bs])), (te 0, .inl (cI, 4, .inl (fun _ => 0))), (td 1, .inr (0, [.ref (te 1), .int (nI 0)])), (te 1, .inl (cI, 4, .inl (fun _ => 0))), (td 2, .inr (0, [.ref (te 2), .int (nI 0)])), (te 2, .inl (cI, 4, .inl (fun _ => 0))), (td 3, .inr (0, [.ref (te 3), .int (nI 0)])), (te 3, .inl (cI, 4, .inl (fun _ => 0))), (td 4, .inr (0, [.ref (te 4), .int (nI 0)])), (te 4, .inl (cI, 4, .inl (fun _ => 0))), (td 5, .inr (0, [.ref (te 5), .int (nI 0)])), (te 5, .inl (cI, 4, .inl (fun _ => 0))), (tr, .inr (3, [.ref (td 0), .ref (td 1), .ref (td 2), .ref (td 3), .ref (td 4), .ref (td 5)])), (td 0, .inr (0, [.ref (te 0), .int (nI 0)]))] := hD
        refine W.widen (k := 0) (n := 0) (Nat.le_of_ble_eq_true rfl) (Nat.le_of_ble_eq_true rfl) ?_
        refine lv_if_eq (tgt := 51) hx hb dX7_node_45 (by decide) (fun c_9 => ?_) (fun c_9 => absurd (by decide) c_9)
        refine lv_aload_n hx hb dX7_node_51 rfl (lv_at hl 0 rfl) ?_
        refine va_get (D := (dC, dI)) (ci := 7) (v := .ref tr) (C := RX7) (T := TX7) (N := 4) hx hb hts (fun w h => List.mem_cons_of_mem _ (List.mem_append_left _ (List.mem_append_left _ (List.mem_append_right _ h)))) hown hK hP 0 rfl rfl 0 (by decide) (hts (.fieldLink RX7 12 "PolarTypes" "tree" "LPolarTypes$Tree;") (List.mem_of_getElem? (i := 1) (by decide +kernel))) (fun _ h9 => h9) rfl dX7_node_52 ?_
        refine lv_iload_n hx hb dX7_node_55 rfl (lv_at hl 1 rfl) ?_
        refine lv_iload_n hx hb dX7_node_56 rfl (lv_at hl 2 rfl) ?_
        refine lv_iload_n hx hb dX7_node_57 rfl (lv_at hl 3 rfl) ?_
        refine lv_iload hx hb dX7_node_58 (lv_at hl 4 rfl) ?_
        refine lv_iload hx hb dX7_node_60 (lv_at hl 5 rfl) ?_
        have hPc := hP.sub (ws' := [(tr, .inr (3, [.ref (td 0), .ref (td 1), .ref (td 2), .ref (td 3), .ref (td 4), .ref (td 5)])), (td 0, .inr (0, [.ref (te 0), .int (nI 0)])), (te 0, .inl (cI, 4, .inl (fun _ => 0))), (td 1, .inr (0, [.ref (te 1), .int (nI 0)])), (te 1, .inl (cI, 4, .inl (fun _ => 0))), (td 2, .inr (0, [.ref (te 2), .int (nI 0)])), (te 2, .inl (cI, 4, .inl (fun _ => 0))), (td 3, .inr (0, [.ref (te 3), .int (nI 0)])), (te 3, .inl (cI, 4, .inl (fun _ => 0))), (td 4, .inr (0, [.ref (te 4), .int (nI 0)])), (te 4, .inl (cI, 4, .inl (fun _ => 0))), (td 5, .inr (0, [.ref (te 5), .int (nI 0)])), (te 5, .inl (cI, 4, .inl (fun _ => 0)))]) [12, 13, 1, 2, 3, 4, 5, 6, 7, 8, 9, 10, 11] rfl
        have hDc := hD.sub (ws' := [(tr, .inr (3, [.ref (td 0), .ref (td 1), .ref (td 2), .ref (td 3), .ref (td 4), .ref (td 5)])), (td 0, .inr (0, [.ref (te 0), .int (nI 0)])), (te 0, .inl (cI, 4, .inl (fun _ => 0))), (td 1, .inr (0, [.ref (te 1), .int (nI 0)])), (te 1, .inl (cI, 4, .inl (fun _ => 0))), (td 2, .inr (0, [.ref (te 2), .int (nI 0)])), (te 2, .inl (cI, 4, .inl (fun _ => 0))), (td 3, .inr (0, [.ref (te 3), .int (nI 0)])), (te 3, .inl (cI, 4, .inl (fun _ => 0))), (td 4, .inr (0, [.ref (te 4), .int (nI 0)])), (te 4, .inl (cI, 4, .inl (fun _ => 0))), (td 5, .inr (0, [.ref (te 5), .int (nI 0)])), (te 5, .inl (cI, 4, .inl (fun _ => 0)))]) [12, 13, 1, 2, 3, 4, 5, 6, 7, 8, 9, 10, 11] (by decide) rfl
        have hFc := va_free (wc := [(tr, .inr (3, [.ref (td 0), .ref (td 1), .ref (td 2), .ref (td 3), .ref (td 4), .ref (td 5)])), (td 0, .inr (0, [.ref (te 0), .int (nI 0)])), (te 0, .inl (cI, 4, .inl (fun _ => 0))), (td 1, .inr (0, [.ref (te 1), .int (nI 0)])), (te 1, .inl (cI, 4, .inl (fun _ => 0))), (td 2, .inr (0, [.ref (te 2), .int (nI 0)])), (te 2, .inl (cI, 4, .inl (fun _ => 0))), (td 3, .inr (0, [.ref (te 3), .int (nI 0)])), (te 3, .inl (cI, 4, .inl (fun _ => 0))), (td 4, .inr (0, [.ref (te 4), .int (nI 0)])), (te 4, .inl (cI, 4, .inl (fun _ => 0))), (td 5, .inr (0, [.ref (te 5), .int (nI 0)])), (te 5, .inl (cI, 4, .inl (fun _ => 0)))]) hD hS hA [12, 13, 1, 2, 3, 4, 5, 6, 7, 8, 9, 10, 11] rfl
        refine va_calli (va_runV (As := [.int kd, .int v, .int na, .int nb, .int nc]) (rest := []) ⟨hx, hb, hml, hown, hts⟩ (c_addNode0 l dC dI cI tr td te tk kd v na nb nc ((canB_lt c_7)) H.size) (cwV 5 hts gX7_node_X3_addNode rfl rfl rfl (by decide +kernel) ⟨Nat.le_of_ble_eq_true rfl, Nat.le_of_ble_eq_true rfl⟩) ⟨fun a U g mk q => by obtain ⟨q0, q1, qP, qK, qD, qZ⟩ := q; exact ⟨q0, q1, qP, va_K.moved (u := U) (U := U.calling g mk a) (Vm.Alike.refl U.vm) qK, qD, qZ.calling g mk a⟩, va_recv hK hPc (ci := 3) (q0 := 0) rfl rfl, fun U hU hW => ⟨rfl, by rw [hU], by rw [hU]; exact hPc, va_K.moved hW.alike hK, hDc.weaken (fun _ _ _ _ => trivial), ZT.call hZ hS hU hW hFc⟩⟩ rfl rfl hl.1 rfl (lv_room (Nat.le_of_ble_eq_true rfl)) dX7_node_62 ⟨Nat.le_of_ble_eq_true rfl, Nat.le_of_ble_eq_true rfl⟩) hS (fun q _ h => hFc q h) hFc (fun r_10 u t H1 locs ht hvm hw hB hz1 hk1 hS => ?_)
        obtain ⟨hP1, hK1, hD1⟩ := hB
        rw [ht] at hP1
        obtain ⟨hP, hD⟩ := va_join (wr := [(h0, .inr (7, [.ref tr, .ref ty, .ref wk, .ref bs]))]) (w1 := []) hP hD [12, 13, 1, 2, 3, 4, 5, 6, 7, 8, 9, 10, 11] [0] rfl rfl (by decide) (by decide) hk1 hFc hP1 hD1
        generalize H1 = H at hP hS ⊢
        obtain rfl : r_10 = 0 := hw
        have hP : va_P (dC, dI) vwCl [(h0, .inr (7, [.ref tr, .ref ty, .ref wk, .ref bs]))] H := hP
        have hD : va_D A [(h0, .inr (7, [.ref tr, .ref ty, .ref wk, .ref bs]))] := hD
        refine W.widen (k := 16) (n := 9664) (Nat.le_of_ble_eq_true rfl) (Nat.le_of_ble_eq_true rfl) ?_
        have hP9 := hP.sub (ws' := []) [] rfl
        have hD9 := hD.sub (ws' := []) [] (by decide) rfl
        refine W.widen (k := 16) (n := 9664) (Nat.le_of_ble_eq_true rfl) (Nat.le_of_ble_eq_true rfl) ?_
        exact W.iret (v := 0) hx hb hr (fun t ht hW => ⟨⟨0, (), rfl, (by simp only [p_node, if_neg c_2, if_pos c_4, if_pos c_7]), by rw [ht]; exact hP9, va_K.moved hW.alike hK, hD9⟩, hS.F ht⟩) hS.2.2 dX7_node_65
      · skip
        refine lv_iconst (v := (-1)) hx hb dX7_node_36 (by decide) ?_
        have hP9 := hP.sub (ws' := []) [] rfl
        have hD9 := hD.sub (ws' := []) [] (by decide) rfl
        refine W.widen (k := 16) (n := 9664) (Nat.le_of_ble_eq_true rfl) (Nat.le_of_ble_eq_true rfl) ?_
        exact W.iret (v := (-1)) hx hb hr (fun t ht hW => ⟨⟨(-1), (), rfl, (by simp only [p_node, if_neg c_2, if_pos c_4, if_neg (not_not_intro c_7)]), by rw [ht]; exact hP9, va_K.moved hW.alike hK, hD9⟩, hS.F ht⟩) hS.2.2 dX7_node_37
    · skip
      refine lv_iconst (v := (-1)) hx hb dX7_node_15 (by decide) ?_
      have hP9 := hP.sub (ws' := []) [] rfl
      have hD9 := hD.sub (ws' := []) [] (by decide) rfl
      refine W.widen (k := 16) (n := 9664) (Nat.le_of_ble_eq_true rfl) (Nat.le_of_ble_eq_true rfl) ?_
      exact W.iret (v := (-1)) hx hb hr (fun t ht hW => ⟨⟨(-1), (), rfl, (by simp only [p_node, if_neg c_2, if_neg (not_not_intro c_4)]), by rw [ht]; exact hP9, va_K.moved hW.alike hK, hD9⟩, hS.F ht⟩) hS.2.2 dX7_node_16

