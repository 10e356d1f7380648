theorem dX2_init_0 : decode cX2_init 0 = .ok (.aload_n 0, 1) := by decide +kernel
theorem dX2_init_1 : decode cX2_init 1 = .ok (.invokespecial 3, 3) := by decide +kernel
theorem dX2_init_4 : decode cX2_init 4 = .ok (.aload_n 0, 1) := by decide +kernel
theorem dX2_init_5 : decode cX2_init 5 = .ok (.new 9, 3) := by decide +kernel
theorem dX2_init_8 : decode cX2_init 8 = .ok (.dup, 1) := by decide +kernel
set_option maxRecDepth 20000 in
theorem ggX2_init_X0_init : GoodIn wsX2_init wsX0_init := goodIn_r _ [18, 19, 2, 3, 20, 21, 57, 58] (by decide +kernel) (by decide +kernel)
set_option maxRecDepth 20000 in
theorem gX2_init_X0_init : GoodIn wsX2_init (wsX0_init) := ggX2_init_X0_init
theorem dX2_init_9 : decode cX2_init 9 = .ok (.invokespecial 11, 3) := by decide +kernel
theorem dX2_init_12 : decode cX2_init 12 = .ok (.putfield 12, 3) := by decide +kernel
theorem dX2_init_15 : decode cX2_init 15 = .ok (.aload_n 0, 1) := by decide +kernel
theorem dX2_init_16 : decode cX2_init 16 = .ok (.new 9, 3) := by decide +kernel
theorem dX2_init_19 : decode cX2_init 19 = .ok (.dup, 1) := by decide +kernel
theorem dX2_init_20 : decode cX2_init 20 = .ok (.invokespecial 11, 3) := by decide +kernel
theorem dX2_init_23 : decode cX2_init 23 = .ok (.putfield 18, 3) := by decide +kernel
theorem dX2_init_26 : decode cX2_init 26 = .ok (.aload_n 0, 1) := by decide +kernel
theorem dX2_init_27 : decode cX2_init 27 = .ok (.new 9, 3) := by decide +kernel
theorem dX2_init_30 : decode cX2_init 30 = .ok (.dup, 1) := by decide +kernel
theorem dX2_init_31 : decode cX2_init 31 = .ok (.invokespecial 11, 3) := by decide +kernel
theorem dX2_init_34 : decode cX2_init 34 = .ok (.putfield 21, 3) := by decide +kernel
theorem dX2_init_37 : decode cX2_init 37 = .ok (.aload_n 0, 1) := by decide +kernel
theorem dX2_init_38 : decode cX2_init 38 = .ok (.new 9, 3) := by decide +kernel
theorem dX2_init_41 : decode cX2_init 41 = .ok (.dup, 1) := by decide +kernel
theorem dX2_init_42 : decode cX2_init 42 = .ok (.sipush 300, 3) := by decide +kernel
set_option maxRecDepth 20000 in
theorem ggX2_init_X0_init_ : GoodIn wsX2_init wsX0_init_ := goodIn_r _ [24, 19, 2, 3, 20, 21, 25, 26, 27, 6, 28, 29, 30, 31, 32, 33, 34, 35, 36, 37, 38, 39, 40, 41, 42, 43, 44, 45, 46, 47, 57, 58] (by decide +kernel) (by decide +kernel)
set_option maxRecDepth 20000 in
theorem gX2_init_X0_init_ : GoodIn wsX2_init (wsX0_init_) := ggX2_init_X0_init_
theorem dX2_init_45 : decode cX2_init 45 = .ok (.invokespecial 26, 3) := by decide +kernel
theorem dX2_init_48 : decode cX2_init 48 = .ok (.putfield 29, 3) := by decide +kernel
theorem dX2_init_51 : decode cX2_init 51 = .ok (.aload_n 0, 1) := by decide +kernel
theorem dX2_init_52 : decode cX2_init 52 = .ok (.new 32, 3) := by decide +kernel
theorem dX2_init_55 : decode cX2_init 55 = .ok (.dup, 1) := by decide +kernel
theorem dX2_init_56 : decode cX2_init 56 = .ok (.iconst 0, 1) := by decide +kernel
set_option maxRecDepth 20000 in
theorem ggX2_init_X1_init : GoodIn wsX2_init wsX1_init := goodIn_r _ [50, 51, 2, 3, 52, 53, 42, 54, 55, 56, 65, 66] (by decide +kernel) (by decide +kernel)
set_option maxRecDepth 20000 in
theorem gX2_init_X1_init : GoodIn wsX2_init (wsX1_init) := ggX2_init_X1_init
theorem dX2_init_57 : decode cX2_init 57 = .ok (.invokespecial 34, 3) := by decide +kernel
theorem dX2_init_60 : decode cX2_init 60 = .ok (.putfield 35, 3) := by decide +kernel
theorem dX2_init_63 : decode cX2_init 63 = .ok (.aload_n 0, 1) := by decide +kernel
theorem dX2_init_64 : decode cX2_init 64 = .ok (.aload_n 1, 1) := by decide +kernel
theorem dX2_init_65 : decode cX2_init 65 = .ok (.putfield 39, 3) := by decide +kernel
theorem dX2_init_68 : decode cX2_init 68 = .ok (.return_, 1) := by decide +kernel
set_option maxHeartbeats 4000000 in
set_option maxRecDepth 100000 in
/-- Teller(types) -/
theorem c_Teller_init (l : Launch) (dC : Nat → ClassId) (dI : Nat → Nat → Nat) (cI : ClassId) (h0 : Nat) (tp : Nat) (sz : Nat) : Met l yX2_init wsX2_init ({ frames := 4, cells := 310, slots := 181226, locals := 125 }) (va_Pc [.ref h0, .ref tp] (fun U => U.heap.size = sz ∧ va_P (dC, dI) vwCl [(h0, .inr (2, [.null, .null, .null, .null, .null, .null]))] U.heap ∧ va_K (dC, dI) vwCl [(cI, .int)] U ∧ va_D (fun _ => True) [(h0, .inr (2, [.null, .null, .null, .null, .null, .null]))])) (va_Qv (fun (_ : Unit) => True) (fun (_ : Unit) (t : State) => ∃ (ld : Nat → Nat), va_P (dC, dI) vwCl [(h0, .inr (2, [.ref (ld 0), .ref (ld 1), .ref (ld 2), .ref (ld 3), .ref (ld 4), .ref (ld 5)]))] t.heap ∧ va_K (dC, dI) vwCl [(cI, .int)] t ∧ va_D (va_A [(h0, .inr (2, [.null, .null, .null, .null, .null, .null]))] sz) [(h0, .inr (2, [.ref (ld 0), .ref (ld 1), .ref (ld 2), .ref (ld 3), .ref (ld 4), .ref (ld 5)]))]) (va_A [(h0, .inr (2, [.null, .null, .null, .null, .null, .null]))] sz)) 310 181226 (va_A [(h0, .inr (2, [.null, .null, .null, .null, .null, .null]))] sz) := by
  refine Met.ofW (cc := cX2_init) (maxL := 2) (ret := none) (by decide) rfl ?_
  intro p e s m args below meth c s₁ B hml hv
  obtain ⟨rfl, hsz, hP, hK, hD0⟩ := hv
  have hx := B.exec
  have hb := B.bytes
  have hr := B.returns
  have hts := atoms_spec (ws := wsX2_init) B.pre
  have hown : s.vm.findClass RX2 = some m.cls := findClass_of_methodNamed B.named
  have hlocks := B.notSynchronized
  have hin : meth.name = "<init>" := (name_of_methodNamed B.named B.method).1
  subst hsz
  have hD := hD0.self (sz := s.heap.size)
  generalize hAe : va_A [(h0, .inr (2, [.null, .null, .null, .null, .null, .null]))] s.heap.size = A at hD ⊢
  have hA : ∀ q : Nat, s.heap.size ≤ q → A q := fun q h => by rw [← hAe]; exact Or.inr h
  have hS : va_S A s.heap s.heap [] := va_S.rf
  have hP : va_P (dC, dI) vwCl [(h0, .inr (2, [.null, .null, .null, .null, .null, .null]))] s.heap := hP
  have hl := lv_entry ([.ref h0, .ref tp]) (n := 2) (Nat.le_of_ble_eq_true rfl)
  rw [lg_entry_eq]
  generalize (lg_sl ([.ref h0, .ref tp]) ++ List.replicate (2 - (lg_sl ([.ref h0, .ref tp])).length) Slot.unset).toArray = ls at hl ⊢
  have hl : lv_has ls 2 [(0, .ref h0), (1, .ref tp)] := hl
  obtain ⟨H, hHe⟩ : ∃ H : Heap, H = s.heap := ⟨_, rfl⟩
  rw [← hHe] at hP ⊢
  have hS : va_S A s.heap H [] := by rw [hHe]; exact va_S.rf
  refine lv_aload_n hx hb dX2_init_0 rfl (lv_at hl 0 rfl) ?_
  refine W.objInit hx hb hown (hts (.methodLink RX2 3 objectInit) (List.mem_of_getElem? (i := 1) (by decide +kernel))) (hts (.instanceMethod objectInit) (List.mem_of_getElem? (i := 2) (by decide +kernel))) (hts (.code objectInit ⟨#[0xb1]⟩ 1 none) (List.mem_of_getElem? (i := 3) (by decide +kernel))) rfl (by rw [hml]; exact hl.1) rfl dX2_init_1 (Nat.le_of_ble_eq_true rfl) (Nat.le_of_ble_eq_true rfl) ?_
  refine W.eq (g2 := F0 m 4 ls []) rfl ?_
  refine lv_aload_n hx hb dX2_init_4 rfl (lv_at hl 0 rfl) ?_
  refine va_new (ci := 0) (fs := [.null, .int 0]) (C := RX0) (T := TX0) (N := 2) hx hb hts (fun w h => List.mem_cons_of_mem _ (List.mem_append_left _ (List.mem_append_left _ (List.mem_append_right _ h)))) tyX0 tyX0_ok hown (hts (.classLink RX2 9 RX0) (List.mem_of_getElem? (i := 4) (by decide +kernel))) (hts (.instantiable RX0 2) (List.mem_of_getElem? (i := 5) (by decide +kernel))) (hts (.initialized RX0) (List.mem_of_getElem? (i := 6) (by decide +kernel))) hK hP hD hS hA rfl (by decide +kernel) (Nat.le_of_ble_eq_true rfl) (Nat.le_of_ble_eq_true rfl) dX2_init_5 (fun q_1 H hP hD hS => ?_)
  have hP : va_P (dC, dI) vwCl [(h0, .inr (2, [.null, .null, .null, .null, .null, .null])), (q_1, .inr (0, [.null, .int 0]))] H := hP
  have hD : va_D A [(h0, .inr (2, [.null, .null, .null, .null, .null, .null])), (q_1, .inr (0, [.null, .int 0]))] := hD
  refine W.widen (k := 1) (n := 2) (Nat.le_of_ble_eq_true rfl) (Nat.le_of_ble_eq_true rfl) ?_
  refine lv_dup hx hb dX2_init_8 rfl ?_
  have hPc := hP.sub (ws' := [(q_1, .inr (0, [.null, .int 0]))]) [1] rfl
  have hDc := hD.sub (ws' := [(q_1, .inr (0, [.null, .int 0]))]) [1] (by decide) rfl
  have hFc := va_free (wc := [(q_1, .inr (0, [.null, .int 0]))]) hD hS hA [1] rfl
  refine va_callv (va_runI (As := []) (rest := [.ref q_1, .ref h0]) ⟨hx, hb, hml, hown, hts⟩ (c_Row_init l dC dI cI q_1 H.size) (cwI 0 hts gX2_init_X0_init rfl rfl rfl (hts (.initialized RX0) (List.mem_of_getElem? (i := 6) (by decide +kernel))) (hts (.methodLink RX2 11 yX0_init) (List.mem_of_getElem? (i := 16) (by decide +kernel))) (hts (.instanceMethod yX0_init) (List.mem_of_getElem? (i := 17) (by decide +kernel))) rfl (by decide +kernel) ⟨Nat.le_of_ble_eq_true rfl, Nat.le_of_ble_eq_true rfl⟩) ⟨fun a U g mk q => by obtain ⟨q0, q1, qP, qK, qD⟩ := q; exact ⟨q0, q1, qP, va_K.moved (u := U) (U := U.calling g mk a) (Vm.Alike.refl U.vm) qK, qD⟩, fun U hU hW => ⟨rfl, by rw [hU], by rw [hU]; exact hPc, va_K.moved hW.alike hK, hDc.weaken (fun _ _ _ _ => trivial)⟩⟩ rfl rfl hl.1 rfl (lv_room (Nat.le_of_ble_eq_true rfl)) dX2_init_9 ⟨Nat.le_of_ble_eq_true rfl, Nat.le_of_ble_eq_true rfl⟩) hS (fun q _ h => hFc q h) hFc (fun u t H1 locs ht hvm hw hB hz1 hk1 hS => ?_)
  obtain ⟨y_3, hP1, hK1, hD1⟩ := hB
  rw [ht] at hP1
  obtain ⟨hP, hD⟩ := va_join (wr := [(h0, .inr (2, [.null, .null, .null, .null, .null, .null]))]) (w1 := [(q_1, .inr (0, [.ref y_3, .int (nI 0)])), (y_3, .inl (cI, 4, .inl (fun _ => 0)))]) hP hD [1] [0] rfl rfl (by decide) (by decide) hk1 hFc hP1 hD1
  generalize H1 = H at hP hS ⊢
  have hP : va_P (dC, dI) vwCl [(h0, .inr (2, [.null, .null, .null, .null, .null, .null])), (q_1, .inr (0, [.ref y_3, .int (nI 0)])), (y_3, .inl (cI, 4, .inl (fun _ => 0)))] H := hP
  have hD : va_D A [(h0, .inr (2, [.null, .null, .null, .null, .null, .null])), (q_1, .inr (0, [.ref y_3, .int (nI 0)])), (y_3, .inl (cI, 4, .inl (fun _ => 0)))] := hD
  refine W.widen (k := 2) (n := 6) (Nat.le_of_ble_eq_true rfl) (Nat.le_of_ble_eq_true rfl) ?_
  refine va_putF (D := (dC, dI)) (ci := 2) (v := .ref q_1) (ty := .object "PolarTypes$Row") (C := RX2) (T := TX2) (N := 6) hx hb hts (fun w h => List.mem_cons_of_mem _ (List.mem_append_left _ (List.mem_append_right _ h))) tyX2 tyX2_ok nmX2 hown hK hP hD hS 0 rfl rfl 1 (by decide) (hts (.fieldLink RX2 12 "PolarTypes$Teller" "openTypes" "LPolarTypes$Row;") (List.mem_of_getElem? (i := 7) (by decide +kernel))) (fun _ h9 => h9) rfl hin rfl (by decide +kernel) rfl rfl (Nat.le_of_ble_eq_true rfl) dX2_init_12 (fun H locs hP hD hS => ?_)
  have hP : va_P (dC, dI) vwCl [(h0, .inr (2, [.null, .ref q_1, .null, .null, .null, .null])), (q_1, .inr (0, [.ref y_3, .int (nI 0)])), (y_3, .inl (cI, 4, .inl (fun _ => 0)))] H := hP
  have hD : va_D A [(h0, .inr (2, [.null, .ref q_1, .null, .null, .null, .null])), (q_1, .inr (0, [.ref y_3, .int (nI 0)])), (y_3, .inl (cI, 4, .inl (fun _ => 0)))] := hD
  refine lv_aload_n hx hb dX2_init_15 rfl (lv_at hl 0 rfl) ?_
  refine va_new (ci := 0) (fs := [.null, .int 0]) (C := RX0) (T := TX0) (N := 2) hx hb hts (fun w h => List.mem_cons_of_mem _ (List.mem_append_left _ (List.mem_append_left _ (List.mem_append_right _ h)))) tyX0 tyX0_ok hown (hts (.classLink RX2 9 RX0) (List.mem_of_getElem? (i := 4) (by decide +kernel))) (hts (.instantiable RX0 2) (List.mem_of_getElem? (i := 5) (by decide +kernel))) (hts (.initialized RX0) (List.mem_of_getElem? (i := 6) (by decide +kernel))) hK hP hD hS hA rfl (by decide +kernel) (Nat.le_of_ble_eq_true rfl) (Nat.le_of_ble_eq_true rfl) dX2_init_16 (fun q_4 H hP hD hS => ?_)
  have hP : va_P (dC, dI) vwCl [(h0, .inr (2, [.null, .ref q_1, .null, .null, .null, .null])), (q_1, .inr (0, [.ref y_3, .int (nI 0)])), (y_3, .inl (cI, 4, .inl (fun _ => 0))), (q_4, .inr (0, [.null, .int 0]))] H := hP
  have hD : va_D A [(h0, .inr (2, [.null, .ref q_1, .null, .null, .null, .null])), (q_1, .inr (0, [.ref y_3, .int (nI 0)])), (y_3, .inl (cI, 4, .inl (fun _ => 0))), (q_4, .inr (0, [.null, .int 0]))] := hD
  refine W.widen (k := 3) (n := 8) (Nat.le_of_ble_eq_true rfl) (Nat.le_of_ble_eq_true rfl) ?_
  refine lv_dup hx hb dX2_init_19 rfl ?_
  have hPc := hP.sub (ws' := [(q_4, .inr (0, [.null, .int 0]))]) [3] rfl
  have hDc := hD.sub (ws' := [(q_4, .inr (0, [.null, .int 0]))]) [3] (by decide) rfl
  have hFc := va_free (wc := [(q_4, .inr (0, [.null, .int 0]))]) hD hS hA [3] rfl
  refine va_callv (va_runI (As := []) (rest := [.ref q_4, .ref h0]) ⟨hx, hb, hml, hown, hts⟩ (c_Row_init l dC dI cI q_4 H.size) (cwI 0 hts gX2_init_X0_init rfl rfl rfl (hts (.initialized RX0) (List.mem_of_getElem? (i := 6) (by decide +kernel))) (hts (.methodLink RX2 11 yX0_init) (List.mem_of_getElem? (i := 16) (by decide +kernel))) (hts (.instanceMethod yX0_init) (List.mem_of_getElem? (i := 17) (by decide +kernel))) rfl (by decide +kernel) ⟨Nat.le_of_ble_eq_true rfl, Nat.le_of_ble_eq_true rfl⟩) ⟨fun a U g mk q => by obtain ⟨q0, q1, qP, qK, qD⟩ := q; exact ⟨q0, q1, qP, va_K.moved (u := U) (U := U.calling g mk a) (Vm.Alike.refl U.vm) qK, qD⟩, fun U hU hW => ⟨rfl, by rw [hU], by rw [hU]; exact hPc, va_K.moved hW.alike hK, hDc.weaken (fun _ _ _ _ => trivial)⟩⟩ rfl rfl hl.1 rfl (lv_room (Nat.le_of_ble_eq_true rfl)) dX2_init_20 ⟨Nat.le_of_ble_eq_true rfl, Nat.le_of_ble_eq_true rfl⟩) hS (fun q _ h => hFc q h) hFc (fun u t H1 locs ht hvm hw hB hz1 hk1 hS => ?_)
  obtain ⟨y_6, hP1, hK1, hD1⟩ := hB
  rw [ht] at hP1
  obtain ⟨hP, hD⟩ := va_join (wr := [(h0, .inr (2, [.null, .ref q_1, .null, .null, .null, .null])), (q_1, .inr (0, [.ref y_3, .int (nI 0)])), (y_3, .inl (cI, 4, .inl (fun _ => 0)))]) (w1 := [(q_4, .inr (0, [.ref y_6, .int (nI 0)])), (y_6, .inl (cI, 4, .inl (fun _ => 0)))]) hP hD [3] [0, 1, 2] rfl rfl (by decide) (by decide) hk1 hFc hP1 hD1
  generalize H1 = H at hP hS ⊢
  have hP : va_P (dC, dI) vwCl [(h0, .inr (2, [.null, .ref q_1, .null, .null, .null, .null])), (q_1, .inr (0, [.ref y_3, .int (nI 0)])), (y_3, .inl (cI, 4, .inl (fun _ => 0))), (q_4, .inr (0, [.ref y_6, .int (nI 0)])), (y_6, .inl (cI, 4, .inl (fun _ => 0)))] H := hP
  have hD : va_D A [(h0, .inr (2, [.null, .ref q_1, .null, .null, .null, .null])), (q_1, .inr (0, [.ref y_3, .int (nI 0)])), (y_3, .inl (cI, 4, .inl (fun _ => 0))), (q_4, .inr (0, [.ref y_6, .int (nI 0)])), (y_6, .inl (cI, 4, .inl (fun _ => 0)))] := hD
  refine W.widen (k := 4) (n := 12) (Nat.le_of_ble_eq_true rfl) (Nat.le_of_ble_eq_true rfl) ?_
  refine va_putF (D := (dC, dI)) (ci := 2) (v := .ref q_4) (ty := .object "PolarTypes$Row") (C := RX2) (T := TX2) (N := 6) hx hb hts (fun w h => List.mem_cons_of_mem _ (List.mem_append_left _ (List.mem_append_right _ h))) tyX2 tyX2_ok nmX2 hown hK hP hD hS 0 rfl rfl 2 (by decide) (hts (.fieldLink RX2 18 "PolarTypes$Teller" "openWays" "LPolarTypes$Row;") (List.mem_of_getElem? (i := 8) (by decide +kernel))) (fun _ h9 => h9) rfl hin rfl (by decide +kernel) rfl rfl (Nat.le_of_ble_eq_true rfl) dX2_init_23 (fun H locs hP hD hS => ?_)
  have hP : va_P (dC, dI) vwCl [(h0, .inr (2, [.null, .ref q_1, .ref q_4, .null, .null, .null])), (q_1, .inr (0, [.ref y_3, .int (nI 0)])), (y_3, .inl (cI, 4, .inl (fun _ => 0))), (q_4, .inr (0, [.ref y_6, .int (nI 0)])), (y_6, .inl (cI, 4, .inl (fun _ => 0)))] H := hP
  have hD : va_D A [(h0, .inr (2, [.null, .ref q_1, .ref q_4, .null, .null, .null])), (q_1, .inr (0, [.ref y_3, .int (nI 0)])), (y_3, .inl (cI, 4, .inl (fun _ => 0))), (q_4, .inr (0, [.ref y_6, .int (nI 0)])), (y_6, .inl (cI, 4, .inl (fun _ => 0)))] := hD
  refine lv_aload_n hx hb dX2_init_26 rfl (lv_at hl 0 rfl) ?_
  refine va_new (ci := 0) (fs := [.null, .int 0]) (C := RX0) (T := TX0) (N := 2) hx hb hts (fun w h => List.mem_cons_of_mem _ (List.mem_append_left _ (List.mem_append_left _ (List.mem_append_right _ h)))) tyX0 tyX0_ok hown (hts (.classLink RX2 9 RX0) (List.mem_of_getElem? (i := 4) (by decide +kernel))) (hts (.instantiable RX0 2) (List.mem_of_getElem? (i := 5) (by decide +kernel))) (hts (.initialized RX0) (List.mem_of_getElem? (i := 6) (by decide +kernel))) hK hP hD hS hA rfl (by decide +kernel) (Nat.le_of_ble_eq_true rfl) (Nat.le_of_ble_eq_true rfl) dX2_init_27 (fun q_7 H hP hD hS => ?_)
  have hP : va_P (dC, dI) vwCl [(h0, .inr (2, [.null, .ref q_1, .ref q_4, .null, .null, .null])), (q_1, .inr (0, [.ref y_3, .int (nI 0)])), (y_3, .inl (cI, 4, .inl (fun _ => 0))), (q_4, .inr (0, [.ref y_6, .int (nI 0)])), (y_6, .inl (cI, 4, .inl (fun _ => 0))), (q_7, .inr (0, [.null, .int 0]))] H := hP
  have hD : va_D A [(h0, .inr (2, [.null, .ref q_1, .ref q_4, .null, .null, .null])), (q_1, .inr (0, [.ref y_3, .int (nI 0)])), (y_3, .inl (cI, 4, .inl (fun _ => 0))), (q_4, .inr (0, [.ref y_6, .int (nI 0)])), (y_6, .inl (cI, 4, .inl (fun _ => 0))), (q_7, .inr (0, [.null, .int 0]))] := hD
  refine W.widen (k := 5) (n := 14) (Nat.le_of_ble_eq_true rfl) (Nat.le_of_ble_eq_true rfl) ?_
  refine lv_dup hx hb dX2_init_30 rfl ?_
  have hPc := hP.sub (ws' := [(q_7, .inr (0, [.null, .int 0]))]) [5] rfl
  have hDc := hD.sub (ws' := [(q_7, .inr (0, [.null, .int 0]))]) [5] (by decide) rfl
  have hFc := va_free (wc := [(q_7, .inr (0, [.null, .int 0]))]) hD hS hA [5] rfl
  refine va_callv (va_runI (As := []) (rest := [.ref q_7, .ref h0]) ⟨hx, hb, hml, hown, hts⟩ (c_Row_init l dC dI cI q_7 H.size) (cwI 0 hts gX2_init_X0_init rfl rfl rfl (hts (.initialized RX0) (List.mem_of_getElem? (i := 6) (by decide +kernel))) (hts (.methodLink RX2 11 yX0_init) (List.mem_of_getElem? (i := 16) (by decide +kernel))) (hts (.instanceMethod yX0_init) (List.mem_of_getElem? (i := 17) (by decide +kernel))) rfl (by decide +kernel) ⟨Nat.le_of_ble_eq_true rfl, Nat.le_of_ble_eq_true rfl⟩) ⟨fun a U g mk q => by obtain ⟨q0, q1, qP, qK, qD⟩ := q; exact ⟨q0, q1, qP, va_K.moved (u := U) (U := U.calling g mk a) (Vm.Alike.refl U.vm) qK, qD⟩, fun U hU hW => ⟨rfl, by rw [hU], by rw [hU]; exact hPc, va_K.moved hW.alike hK, hDc.weaken (fun _ _ _ _ => trivial)⟩⟩ rfl rfl hl.1 rfl (lv_room (Nat.le_of_ble_eq_true rfl)) dX2_init_31 ⟨Nat.le_of_ble_eq_true rfl, Nat.le_of_ble_eq_true rfl⟩) hS (fun q _ h => hFc q h) hFc (fun u t H1 locs ht hvm hw hB hz1 hk1 hS => ?_)
  obtain ⟨y_9, hP1, hK1, hD1⟩ := hB
  rw [ht] at hP1
  obtain ⟨hP, hD⟩ := va_join (wr := [(h0, .inr (2, [.null, .ref q_1, .ref q_4, .null, .null, .null])), (q_1, .inr (0, [.ref y_3, .int (nI 0)])), (y_3, .inl (cI, 4, .inl (fun _ => 0))), (q_4, .inr (0, [.ref y_6, .int (nI 0)])), (y_6, .inl (cI, 4, .inl (fun _ => 0)))]) (w1 := [(q_7, .inr (0, [.ref y_9, .int (nI 0)])), (y_9, .inl (cI, 4, .inl (fun _ => 0)))]) hP hD [5] [0, 1, 2, 3, 4] rfl rfl (by decide) (by decide) hk1 hFc hP1 hD1
  generalize H1 = H at hP hS ⊢
  have hP : va_P (dC, dI) vwCl [(h0, .inr (2, [.null, .ref q_1, .ref q_4, .null, .null, .null])), (q_1, .inr (0, [.ref y_3, .int (nI 0)])), (y_3, .inl (cI, 4, .inl (fun _ => 0))), (q_4, .inr (0, [.ref y_6, .int (nI 0)])), (y_6, .inl (cI, 4, .inl (fun _ => 0))), (q_7, .inr (0, [.ref y_9, .int (nI 0)])), (y_9, .inl (cI, 4, .inl (fun _ => 0)))] H := hP
  have hD : va_D A [(h0, .inr (2, [.null, .ref q_1, .ref q_4, .null, .null, .null])), (q_1, .inr (0, [.ref y_3, .int (nI 0)])), (y_3, .inl (cI, 4, .inl (fun _ => 0))), (q_4, .inr (0, [.ref y_6, .int (nI 0)])), (y_6, .inl (cI, 4, .inl (fun _ => 0))), (q_7, .inr (0, [.ref y_9, .int (nI 0)])), (y_9, .inl (cI, 4, .inl (fun _ => 0)))] := hD
  refine W.widen (k := 6) (n := 18) (Nat.le_of_ble_eq_true rfl) (Nat.le_of_ble_eq_true rfl) ?_
  refine va_putF (D := (dC, dI)) (ci := 2) (v := .ref q_7) (ty := .object "PolarTypes$Row") (C := RX2) (T := TX2) (N := 6) hx hb hts (fun w h => List.mem_cons_of_mem _ (List.mem_append_left _ (List.mem_append_right _ h))) tyX2 tyX2_ok nmX2 hown hK hP hD hS 0 rfl rfl 3 (by decide) (hts (.fieldLink RX2 21 "PolarTypes$Teller" "openPlaces" "LPolarTypes$Row;") (List.mem_of_getElem? (i := 9) (by decide +kernel))) (fun _ h9 => h9) rfl hin rfl (by decide +kernel) rfl rfl (Nat.le_of_ble_eq_true rfl) dX2_init_34 (fun H locs hP hD hS => ?_)
  have hP : va_P (dC, dI) vwCl [(h0, .inr (2, [.null, .ref q_1, .ref q_4, .ref q_7, .null, .null])), (q_1, .inr (0, [.ref y_3, .int (nI 0)])), (y_3, .inl (cI, 4, .inl (fun _ => 0))), (q_4, .inr (0, [.ref y_6, .int (nI 0)])), (y_6, .inl (cI, 4, .inl (fun _ => 0))), (q_7, .inr (0, [.ref y_9, .int (nI 0)])), (y_9, .inl (cI, 4, .inl (fun _ => 0)))] H := hP
  have hD : va_D A [(h0, .inr (2, [.null, .ref q_1, .ref q_4, .ref q_7, .null, .null])), (q_1, .inr (0, [.ref y_3, .int (nI 0)])), (y_3, .inl (cI, 4, .inl (fun _ => 0))), (q_4, .inr (0, [.ref y_6, .int (nI 0)])), (y_6, .inl (cI, 4, .inl (fun _ => 0))), (q_7, .inr (0, [.ref y_9, .int (nI 0)])), (y_9, .inl (cI, 4, .inl (fun _ => 0)))] := hD
  refine lv_aload_n hx hb dX2_init_37 rfl (lv_at hl 0 rfl) ?_
  refine va_new (ci := 0) (fs := [.null, .int 0]) (C := RX0) (T := TX0) (N := 2) hx hb hts (fun w h => List.mem_cons_of_mem _ (List.mem_append_left _ (List.mem_append_left _ (List.mem_append_right _ h)))) tyX0 tyX0_ok hown (hts (.classLink RX2 9 RX0) (List.mem_of_getElem? (i := 4) (by decide +kernel))) (hts (.instantiable RX0 2) (List.mem_of_getElem? (i := 5) (by decide +kernel))) (hts (.initialized RX0) (List.mem_of_getElem? (i := 6) (by decide +kernel))) hK hP hD hS hA rfl (by decide +kernel) (Nat.le_of_ble_eq_true rfl) (Nat.le_of_ble_eq_true rfl) dX2_init_38 (fun q_10 H hP hD hS => ?_)
  have hP : va_P (dC, dI) vwCl [(h0, .inr (2, [.null, .ref q_1, .ref q_4, .ref q_7, .null, .null])), (q_1, .inr (0, [.ref y_3, .int (nI 0)])), (y_3, .inl (cI, 4, .inl (fun _ => 0))), (q_4, .inr (0, [.ref y_6, .int (nI 0)])), (y_6, .inl (cI, 4, .inl (fun _ => 0))), (q_7, .inr (0, [.ref y_9, .int (nI 0)])), (y_9, .inl (cI, 4, .inl (fun _ => 0))), (q_10, .inr (0, [.null, .int 0]))] H := hP
  have hD : va_D A [(h0, .inr (2, [.null, .ref q_1, .ref q_4, .ref q_7, .null, .null])), (q_1, .inr (0, [.ref y_3, .int (nI 0)])), (y_3, .inl (cI, 4, .inl (fun _ => 0))), (q_4, .inr (0, [.ref y_6, .int (nI 0)])), (y_6, .inl (cI, 4, .inl (fun _ => 0))), (q_7, .inr (0, [.ref y_9, .int (nI 0)])), (y_9, .inl (cI, 4, .inl (fun _ => 0))), (q_10, .inr (0, [.null, .int 0]))] := hD
  refine W.widen (k := 7) (n := 20) (Nat.le_of_ble_eq_true rfl) (Nat.le_of_ble_eq_true rfl) ?_
  refine lv_dup hx hb dX2_init_41 rfl ?_
  refine lv_sipush (v := 300) hx hb dX2_init_42 (by decide) ?_
  have hPc := hP.sub (ws' := [(q_10, .inr (0, [.null, .int 0]))]) [7] rfl
  have hDc := hD.sub (ws' := [(q_10, .inr (0, [.null, .int 0]))]) [7] (by decide) rfl
  have hFc := va_free (wc := [(q_10, .inr (0, [.null, .int 0]))]) hD hS hA [7] rfl
  refine va_callv (va_runI (As := [.int 300]) (rest := [.ref q_10, .ref h0]) ⟨hx, hb, hml, hown, hts⟩ (c_Row_initN_300 l dC dI cI q_10 H.size) (cwI 1 hts gX2_init_X0_init_ rfl rfl rfl (hts (.initialized RX0) (List.mem_of_getElem? (i := 6) (by decide +kernel))) (hts (.methodLink RX2 26 yX0_init_) (List.mem_of_getElem? (i := 22) (by decide +kernel))) (hts (.instanceMethod yX0_init_) (List.mem_of_getElem? (i := 23) (by decide +kernel))) rfl (by decide +kernel) ⟨Nat.le_of_ble_eq_true rfl, Nat.le_of_ble_eq_true rfl⟩) ⟨fun a U g mk q => by obtain ⟨q0, q1, qP, qK, qD⟩ := q; exact ⟨q0, q1, qP, va_K.moved (u := U) (U := U.calling g mk a) (Vm.Alike.refl U.vm) qK, qD⟩, fun U hU hW => ⟨rfl, by rw [hU], by rw [hU]; exact hPc, va_K.moved hW.alike hK, hDc.weaken (fun _ _ _ _ => trivial)⟩⟩ rfl rfl hl.1 rfl (lv_room (Nat.le_of_ble_eq_true rfl)) dX2_init_45 ⟨Nat.le_of_ble_eq_true rfl, Nat.le_of_ble_eq_true rfl⟩) hS (fun q _ h => hFc q h) hFc (fun u t H1 locs ht hvm hw hB hz1 hk1 hS => ?_)
  obtain ⟨y_12, hP1, hK1, hD1⟩ := hB
  rw [ht] at hP1
  obtain ⟨hP, hD⟩ := va_join (wr := [(h0, .inr (2, [.null, .ref q_1, .ref q_4, .ref q_7, .null, .null])), (q_1, .inr (0, [.ref y_3, .int (nI 0)])), (y_3, .inl (cI, 4, .inl (fun _ => 0))), (q_4, .inr (0, [.ref y_6, .int (nI 0)])), (y_6, .inl (cI, 4, .inl (fun _ => 0))), (q_7, .inr (0, [.ref y_9, .int (nI 0)])), (y_9, .inl (cI, 4, .inl (fun _ => 0)))]) (w1 := [(q_10, .inr (0, [.ref y_12, .int (nI 300)]))]) hP hD [7] [0, 1, 2, 3, 4, 5, 6] rfl rfl (by decide) (by decide) hk1 hFc hP1 hD1
  generalize H1 = H at hP hS ⊢
  have hP : va_P (dC, dI) vwCl [(h0, .inr (2, [.null, .ref q_1, .ref q_4, .ref q_7, .null, .null])), (q_1, .inr (0, [.ref y_3, .int (nI 0)])), (y_3, .inl (cI, 4, .inl (fun _ => 0))), (q_4, .inr (0, [.ref y_6, .int (nI 0)])), (y_6, .inl (cI, 4, .inl (fun _ => 0))), (q_7, .inr (0, [.ref y_9, .int (nI 0)])), (y_9, .inl (cI, 4, .inl (fun _ => 0))), (q_10, .inr (0, [.ref y_12, .int (nI 300)]))] H := hP
  have hD : va_D A [(h0, .inr (2, [.null, .ref q_1, .ref q_4, .ref q_7, .null, .null])), (q_1, .inr (0, [.ref y_3, .int (nI 0)])), (y_3, .inl (cI, 4, .inl (fun _ => 0))), (q_4, .inr (0, [.ref y_6, .int (nI 0)])), (y_6, .inl (cI, 4, .inl (fun _ => 0))), (q_7, .inr (0, [.ref y_9, .int (nI 0)])), (y_9, .inl (cI, 4, .inl (fun _ => 0))), (q_10, .inr (0, [.ref y_12, .int (nI 300)]))] := hD
  refine W.widen (k := 308) (n := 181224) (Nat.le_of_ble_eq_true rfl) (Nat.le_of_ble_eq_true rfl) ?_
  refine va_putF (D := (dC, dI)) (ci := 2) (v := .ref q_10) (ty := .object "PolarTypes$Row") (C := RX2) (T := TX2) (N := 6) hx hb hts (fun w h => List.mem_cons_of_mem _ (List.mem_append_left _ (List.mem_append_right _ h))) tyX2 tyX2_ok nmX2 hown hK hP hD hS 0 rfl rfl 4 (by decide) (hts (.fieldLink RX2 29 "PolarTypes$Teller" "isOpen" "LPolarTypes$Row;") (List.mem_of_getElem? (i := 10) (by decide +kernel))) (fun _ h9 => h9) rfl hin rfl (by decide +kernel) rfl rfl (Nat.le_of_ble_eq_true rfl) dX2_init_48 (fun H locs hP hD hS => ?_)
  have hP : va_P (dC, dI) vwCl [(h0, .inr (2, [.null, .ref q_1, .ref q_4, .ref q_7, .ref q_10, .null])), (q_1, .inr (0, [.ref y_3, .int (nI 0)])), (y_3, .inl (cI, 4, .inl (fun _ => 0))), (q_4, .inr (0, [.ref y_6, .int (nI 0)])), (y_6, .inl (cI, 4, .inl (fun _ => 0))), (q_7, .inr (0, [.ref y_9, .int (nI 0)])), (y_9, .inl (cI, 4, .inl (fun _ => 0))), (q_10, .inr (0, [.ref y_12, .int (nI 300)]))] H := hP
  have hD : va_D A [(h0, .inr (2, [.null, .ref q_1, .ref q_4, .ref q_7, .ref q_10, .null])), (q_1, .inr (0, [.ref y_3, .int (nI 0)])), (y_3, .inl (cI, 4, .inl (fun _ => 0))), (q_4, .inr (0, [.ref y_6, .int (nI 0)])), (y_6, .inl (cI, 4, .inl (fun _ => 0))), (q_7, .inr (0, [.ref y_9, .int (nI 0)])), (y_9, .inl (cI, 4, .inl (fun _ => 0))), (q_10, .inr (0, [.ref y_12, .int (nI 300)]))] := hD
  refine lv_aload_n hx hb dX2_init_51 rfl (lv_at hl 0 rfl) ?_
  refine va_new (ci := 1) (fs := [.null, .int 0]) (C := RX1) (T := TX1) (N := 2) hx hb hts (fun w h => List.mem_cons_of_mem _ (List.mem_append_right _ h)) tyX1 tyX1_ok hown (hts (.classLink RX2 32 RX1) (List.mem_of_getElem? (i := 11) (by decide +kernel))) (hts (.instantiable RX1 2) (List.mem_of_getElem? (i := 12) (by decide +kernel))) (hts (.initialized RX1) (List.mem_of_getElem? (i := 13) (by decide +kernel))) hK hP hD hS hA rfl (by decide +kernel) (Nat.le_of_ble_eq_true rfl) (Nat.le_of_ble_eq_true rfl) dX2_init_52 (fun q_13 H hP hD hS => ?_)
  have hP : va_P (dC, dI) vwCl [(h0, .inr (2, [.null, .ref q_1, .ref q_4, .ref q_7, .ref q_10, .null])), (q_1, .inr (0, [.ref y_3, .int (nI 0)])), (y_3, .inl (cI, 4, .inl (fun _ => 0))), (q_4, .inr (0, [.ref y_6, .int (nI 0)])), (y_6, .inl (cI, 4, .inl (fun _ => 0))), (q_7, .inr (0, [.ref y_9, .int (nI 0)])), (y_9, .inl (cI, 4, .inl (fun _ => 0))), (q_10, .inr (0, [.ref y_12, .int (nI 300)])), (q_13, .inr (1, [.null, .int 0]))] H := hP
  have hD : va_D A [(h0, .inr (2, [.null, .ref q_1, .ref q_4, .ref q_7, .ref q_10, .null])), (q_1, .inr (0, [.ref y_3, .int (nI 0)])), (y_3, .inl (cI, 4, .inl (fun _ => 0))), (q_4, .inr (0, [.ref y_6, .int (nI 0)])), (y_6, .inl (cI, 4, .inl (fun _ => 0))), (q_7, .inr (0, [.ref y_9, .int (nI 0)])), (y_9, .inl (cI, 4, .inl (fun _ => 0))), (q_10, .inr (0, [.ref y_12, .int (nI 300)])), (q_13, .inr (1, [.null, .int 0]))] := hD
  refine W.widen (k := 309) (n := 181226) (Nat.le_of_ble_eq_true rfl) (Nat.le_of_ble_eq_true rfl) ?_
  refine lv_dup hx hb dX2_init_55 rfl ?_
  refine lv_iconst (v := 0) hx hb dX2_init_56 (by decide) ?_
  have hPc := hP.sub (ws' := [(q_13, .inr (1, [.null, .int 0]))]) [8] rfl
  have hDc := hD.sub (ws' := [(q_13, .inr (1, [.null, .int 0]))]) [8] (by decide) rfl
  have hFc := va_free (wc := [(q_13, .inr (1, [.null, .int 0]))]) hD hS hA [8] rfl
  refine va_callv (va_runI (As := [.int 0]) (rest := [.ref q_13, .ref h0]) ⟨hx, hb, hml, hown, hts⟩ (c_Signs_init_0 l dC dI cI q_13 H.size) (cwI 1 hts gX2_init_X1_init rfl rfl rfl (hts (.initialized RX1) (List.mem_of_getElem? (i := 13) (by decide +kernel))) (hts (.methodLink RX2 34 yX1_init) (List.mem_of_getElem? (i := 48) (by decide +kernel))) (hts (.instanceMethod yX1_init) (List.mem_of_getElem? (i := 49) (by decide +kernel))) rfl (by decide +kernel) ⟨Nat.le_of_ble_eq_true rfl, Nat.le_of_ble_eq_true rfl⟩) ⟨fun a U g mk q => by obtain ⟨q0, q1, qP, qK, qD⟩ := q; exact ⟨q0, q1, qP, va_K.moved (u := U) (U := U.calling g mk a) (Vm.Alike.refl U.vm) qK, qD⟩, fun U hU hW => ⟨rfl, by rw [hU], by rw [hU]; exact hPc, va_K.moved hW.alike hK, hDc.weaken (fun _ _ _ _ => trivial)⟩⟩ rfl rfl hl.1 rfl (lv_room (Nat.le_of_ble_eq_true rfl)) dX2_init_57 ⟨Nat.le_of_ble_eq_true rfl, Nat.le_of_ble_eq_true rfl⟩) hS (fun q _ h => hFc q h) hFc (fun u t H1 locs ht hvm hw hB hz1 hk1 hS => ?_)
  obtain ⟨y_15, hP1, hK1, hD1⟩ := hB
  rw [ht] at hP1
  obtain ⟨hP, hD⟩ := va_join (wr := [(h0, .inr (2, [.null, .ref q_1, .ref q_4, .ref q_7, .ref q_10, .null])), (q_1, .inr (0, [.ref y_3, .int (nI 0)])), (y_3, .inl (cI, 4, .inl (fun _ => 0))), (q_4, .inr (0, [.ref y_6, .int (nI 0)])), (y_6, .inl (cI, 4, .inl (fun _ => 0))), (q_7, .inr (0, [.ref y_9, .int (nI 0)])), (y_9, .inl (cI, 4, .inl (fun _ => 0))), (q_10, .inr (0, [.ref y_12, .int (nI 300)]))]) (w1 := [(q_13, .inr (1, [.ref y_15, .int 0]))]) hP hD [8] [0, 1, 2, 3, 4, 5, 6, 7] rfl rfl (by decide) (by decide) hk1 hFc hP1 hD1
  generalize H1 = H at hP hS ⊢
  have hP : va_P (dC, dI) vwCl [(h0, .inr (2, [.null, .ref q_1, .ref q_4, .ref q_7, .ref q_10, .null])), (q_1, .inr (0, [.ref y_3, .int (nI 0)])), (y_3, .inl (cI, 4, .inl (fun _ => 0))), (q_4, .inr (0, [.ref y_6, .int (nI 0)])), (y_6, .inl (cI, 4, .inl (fun _ => 0))), (q_7, .inr (0, [.ref y_9, .int (nI 0)])), (y_9, .inl (cI, 4, .inl (fun _ => 0))), (q_10, .inr (0, [.ref y_12, .int (nI 300)])), (q_13, .inr (1, [.ref y_15, .int 0]))] H := hP
  have hD : va_D A [(h0, .inr (2, [.null, .ref q_1, .ref q_4, .ref q_7, .ref q_10, .null])), (q_1, .inr (0, [.ref y_3, .int (nI 0)])), (y_3, .inl (cI, 4, .inl (fun _ => 0))), (q_4, .inr (0, [.ref y_6, .int (nI 0)])), (y_6, .inl (cI, 4, .inl (fun _ => 0))), (q_7, .inr (0, [.ref y_9, .int (nI 0)])), (y_9, .inl (cI, 4, .inl (fun _ => 0))), (q_10, .inr (0, [.ref y_12, .int (nI 300)])), (q_13, .inr (1, [.ref y_15, .int 0]))] := hD
  refine W.widen (k := 310) (n := 181226) (Nat.le_of_ble_eq_true rfl) (Nat.le_of_ble_eq_true rfl) ?_
  refine va_put (D := (dC, dI)) (ci := 2) (v := .ref q_13) (ty := .object "PolarTypes$Signs") (C := RX2) (T := TX2) (N := 6) hx hb hts (fun w h => List.mem_cons_of_mem _ (List.mem_append_left _ (List.mem_append_right _ h))) tyX2 tyX2_ok nmX2 hown hK hP hD hS 0 rfl rfl 5 (by decide) (hts (.fieldLink RX2 35 "PolarTypes$Teller" "signs" "LPolarTypes$Signs;") (List.mem_of_getElem? (i := 14) (by decide +kernel))) (fun _ h9 => h9) rfl (by decide +kernel) rfl rfl (Nat.le_of_ble_eq_true rfl) dX2_init_60 (fun H locs hP hD hS => ?_)
  have hP : va_P (dC, dI) vwCl [(h0, .inr (2, [.null, .ref q_1, .ref q_4, .ref q_7, .ref q_10, .ref q_13])), (q_1, .inr (0, [.ref y_3, .int (nI 0)])), (y_3, .inl (cI, 4, .inl (fun _ => 0))), (q_4, .inr (0, [.ref y_6, .int (nI 0)])), (y_6, .inl (cI, 4, .inl (fun _ => 0))), (q_7, .inr (0, [.ref y_9, .int (nI 0)])), (y_9, .inl (cI, 4, .inl (fun _ => 0))), (q_10, .inr (0, [.ref y_12, .int (nI 300)])), (q_13, .inr (1, [.ref y_15, .int 0]))] H := hP
  have hD : va_D A [(h0, .inr (2, [.null, .ref q_1, .ref q_4, .ref q_7, .ref q_10, .ref q_13])), (q_1, .inr (0, [.ref y_3, .int (nI 0)])), (y_3, .inl (cI, 4, .inl (fun _ => 0))), (q_4, .inr (0, [.ref y_6, .int (nI 0)])), (y_6, .inl (cI, 4, .inl (fun _ => 0))), (q_7, .inr (0, [.ref y_9, .int (nI 0)])), (y_9, .inl (cI, 4, .inl (fun _ => 0))), (q_10, .inr (0, [.ref y_12, .int (nI 300)])), (q_13, .inr (1, [.ref y_15, .int 0]))] := hD
  refine lv_aload_n hx hb dX2_init_63 rfl (lv_at hl 0 rfl) ?_
  refine lv_aload_n hx hb dX2_init_64 rfl (lv_at hl 1 rfl) ?_
  refine va_putF (D := (dC, dI)) (ci := 2) (v := .ref tp) (ty := .object "PolarTypes$Types") (C := RX2) (T := TX2) (N := 6) hx hb hts (fun w h => List.mem_cons_of_mem _ (List.mem_append_left _ (List.mem_append_right _ h))) tyX2 tyX2_ok nmX2 hown hK hP hD hS 0 rfl rfl 0 (by decide) (hts (.fieldLink RX2 39 "PolarTypes$Teller" "types" "LPolarTypes$Types;") (List.mem_of_getElem? (i := 15) (by decide +kernel))) (fun _ h9 => h9) rfl hin rfl (by decide +kernel) rfl rfl (Nat.le_of_ble_eq_true rfl) dX2_init_65 (fun H locs hP hD hS => ?_)
  have hP : va_P (dC, dI) vwCl [(h0, .inr (2, [.ref tp, .ref q_1, .ref q_4, .ref q_7, .ref q_10, .ref q_13])), (q_1, .inr (0, [.ref y_3, .int (nI 0)])), (y_3, .inl (cI, 4, .inl (fun _ => 0))), (q_4, .inr (0, [.ref y_6, .int (nI 0)])), (y_6, .inl (cI, 4, .inl (fun _ => 0))), (q_7, .inr (0, [.ref y_9, .int (nI 0)])), (y_9, .inl (cI, 4, .inl (fun _ => 0))), (q_10, .inr (0, [.ref y_12, .int (nI 300)])), (q_13, .inr (1, [.ref y_15, .int 0]))] H := hP
  have hD : va_D A [(h0, .inr (2, [.ref tp, .ref q_1, .ref q_4, .ref q_7, .ref q_10, .ref q_13])), (q_1, .inr (0, [.ref y_3, .int (nI 0)])), (y_3, .inl (cI, 4, .inl (fun _ => 0))), (q_4, .inr (0, [.ref y_6, .int (nI 0)])), (y_6, .inl (cI, 4, .inl (fun _ => 0))), (q_7, .inr (0, [.ref y_9, .int (nI 0)])), (y_9, .inl (cI, 4, .inl (fun _ => 0))), (q_10, .inr (0, [.ref y_12, .int (nI 300)])), (q_13, .inr (1, [.ref y_15, .int 0]))] := hD
  have hP9 := hP.sub (ws' := [(h0, .inr (2, [.ref tp, .ref q_1, .ref q_4, .ref q_7, .ref q_10, .ref q_13]))]) [0] rfl
  have hD9 := hD.sub (ws' := [(h0, .inr (2, [.ref tp, .ref q_1, .ref q_4, .ref q_7, .ref q_10, .ref q_13]))]) [0] (by decide) rfl
  refine W.widen (k := 310) (n := 181226) (Nat.le_of_ble_eq_true rfl) (Nat.le_of_ble_eq_true rfl) ?_
  exact W.vret hx hb hr (fun t ht hW => ⟨⟨(), rfl, trivial, (fun k => [tp, q_1, q_4, q_7, q_10, q_13].getD k 0), by rw [ht]; exact hP9, va_K.moved hW.alike hK, hD9⟩, hS.F ht⟩) hS.2.2 dX2_init_68

