set_option maxHeartbeats 4000000 in
set_option maxRecDepth 100000 in
/-- Row(120) -/
theorem i9_Row_initN_120 (l : Launch) (dC : Nat → ClassId) (dI : Nat → Nat → Nat) (cI cB cR : ClassId) (h0 : Nat) (sz : Nat) : Met l yX0_init_ wsX0_init_ ({ frames := 3, cells := 121, slots := 72484, locals := 103 }) (va_Pc [.ref h0, .int 120] (fun U => U.heap.size = sz ∧ va_P (dC, dI) vwCl [(h0, .inr (0, [.null, .int 0]))] U.heap ∧ va_K (dC, dI) vwCl [(cI, .int), (cB, .byte), (cR, .object RX0)] U ∧ va_D (fun _ => True) [(h0, .inr (0, [.null, .int 0]))])) (va_Qv (fun (_ : Unit) => True) (fun (_ : Unit) (t : State) => ∃ (q : Nat), ∃ (n : Nat), ∃ (f : Nat → Int32), (120 ≤ n ∧ n ≤ 244 ∧ ∀ j, j < 120 → f j = -9) ∧ va_P (dC, dI) vwCl [(h0, .inr (0, [.ref q, .int (nI 120)])), (q, .inl (cI, n, .inl f))] t.heap ∧ va_K (dC, dI) vwCl [(cI, .int), (cB, .byte), (cR, .object RX0)] t ∧ va_D (va_A [(h0, .inr (0, [.null, .int 0]))] sz) [(h0, .inr (0, [.ref q, .int (nI 120)])), (q, .inl (cI, n, .inl f))]) (va_A [(h0, .inr (0, [.null, .int 0]))] sz)) 121 72484 (va_A [(h0, .inr (0, [.null, .int 0]))] sz) := by
  refine Met.ofW (cc := cX0_init_) (maxL := 3) (ret := none) (by decide) rfl ?_
  intro p e s m args below meth c s₁ B hml hv
  obtain ⟨rfl, hsz, hP, hK, hD0⟩ := hv
  have hx := B.exec
  have hb := B.bytes
  have hr := B.returns
  have hts := atoms_spec (ws := wsX0_init_) B.pre
  have hown : s.vm.findClass RX0 = some m.cls := findClass_of_methodNamed B.named
  have hlocks := B.notSynchronized
  have hin : meth.name = "<init>" := (name_of_methodNamed B.named B.method).1
  subst hsz
  have hD := hD0.self (sz := s.heap.size)
  generalize hAe : va_A [(h0, .inr (0, [.null, .int 0]))] s.heap.size = A at hD ⊢
  have hA : ∀ q : Nat, s.heap.size ≤ q → A q := fun q h => by rw [← hAe]; exact Or.inr h
  have hS : va_S A s.heap s.heap [] := va_S.rf
  have hP : va_P (dC, dI) vwCl [(h0, .inr (0, [.null, .int 0]))] s.heap := hP
  have hl := lv_entry ([.ref h0, .int 120]) (n := 3) (Nat.le_of_ble_eq_true rfl)
  rw [lg_entry_eq]
  generalize (lg_sl ([.ref h0, .int 120]) ++ List.replicate (3 - (lg_sl ([.ref h0, .int 120])).length) Slot.unset).toArray = ls at hl ⊢
  have hl : lv_has ls 3 [(0, .ref h0), (1, .int 120)] := hl
  obtain ⟨H, hHe⟩ : ∃ H : Heap, H = s.heap := ⟨_, rfl⟩
  rw [← hHe] at hP ⊢
  have hS : va_S A s.heap H [] := by rw [hHe]; exact va_S.rf
  refine lv_aload_n hx hb dX0_init__0 rfl (lv_at hl 0 rfl) ?_
  refine W.objInit hx hb hown (hts (.methodLink RX0 3 objectInit) (List.mem_of_getElem? (i := 1) (by decide +kernel))) (hts (.instanceMethod objectInit) (List.mem_of_getElem? (i := 2) (by decide +kernel))) (hts (.code objectInit ⟨#[0xb1]⟩ 1 none) (List.mem_of_getElem? (i := 3) (by decide +kernel))) rfl (by rw [hml]; exact hl.1) rfl dX0_init__1 (Nat.le_of_ble_eq_true rfl) (Nat.le_of_ble_eq_true rfl) ?_
  refine W.eq (g2 := F0 m 4 ls []) rfl ?_
  refine lv_aload_n hx hb dX0_init__4 rfl (lv_at hl 0 rfl) ?_
  refine lv_iconst (v := 4) hx hb dX0_init__5 (by decide) ?_
  refine va_newa (atype := .int) (ty := .int) hx hb (hts (.arrayClass .int) (List.mem_of_getElem? (i := 4) (by decide +kernel))) rfl hK hP hD hS hA (N' := 4) (a0 := (4, .inl (fun _ => 0))) (fun _ => rfl) (by decide) (by decide) (Nat.le_of_ble_eq_true rfl) (Nat.le_of_ble_eq_true rfl) (Nat.le_of_ble_eq_true rfl) dX0_init__6 (fun q_1 cA_2 H hKn hP hD hS => ?_)
  have ecA_2 : cA_2 = cI := vk_int hKn (i := 3) (j := 0) rfl rfl
  rw [ecA_2] at hP hD
  have hP : va_P (dC, dI) vwCl [(h0, .inr (0, [.null, .int 0])), (q_1, .inl (cI, 4, .inl (fun _ => 0)))] H := hP
  have hD : va_D A [(h0, .inr (0, [.null, .int 0])), (q_1, .inl (cI, 4, .inl (fun _ => 0)))] := hD
  refine W.widen (k := 1) (n := 4) (Nat.le_of_ble_eq_true rfl) (Nat.le_of_ble_eq_true rfl) ?_
  refine va_put (D := (dC, dI)) (ci := 0) (v := .ref q_1) (ty := .array .int) (C := RX0) (T := TX0) (N := 2) hx hb hts (fun w h => List.mem_cons_of_mem _ (List.mem_append_right _ h)) tyX0 tyX0_ok nmX0 hown hK hP hD hS 0 rfl rfl 0 (by decide) (hts (.fieldLink RX0 9 "PolarTypes$Row" "items" "[I") (List.mem_of_getElem? (i := 5) (by decide +kernel))) (fun _ h9 => h9) rfl (by decide +kernel) rfl rfl (Nat.le_of_ble_eq_true rfl) dX0_init__8 (fun H locs hP hD hS => ?_)
  have hP : va_P (dC, dI) vwCl [(h0, .inr (0, [.ref q_1, .int 0])), (q_1, .inl (cI, 4, .inl (fun _ => 0)))] H := hP
  have hD : va_D A [(h0, .inr (0, [.ref q_1, .int 0])), (q_1, .inl (cI, 4, .inl (fun _ => 0)))] := hD
  refine lv_iconst (v := 0) hx hb dX0_init__11 (by decide) ?_
  refine lv_istore_n (lv' := [(2, .int 0), (0, .ref h0), (1, .int 120)]) hx hb dX0_init__12 rfl hl (by decide) rfl (fun ls hl => ?_)
  refine w_loop (fun n H locs k sl g => ∃ (i q nn : Nat) (f : Nat → Int32) (ls : Array Slot), i + n = 120 ∧ i ≤ nn ∧ nn ≤ 2 * i + 4 ∧ (∀ j, j < i → f j = -9) ∧ k = 1 + i ∧ sl = 4 + 604 * i ∧ va_P (dC, dI) vwCl [(h0, .inr (0, [.ref q, .int (nI i)])), (q, .inl (cI, nn, .inl f))] H ∧ va_D A [(h0, .inr (0, [.ref q, .int (nI i)])), (q, .inl (cI, nn, .inl f))] ∧ va_S A s.heap H locs ∧ lv_has ls 3 [(2, .int (nI i)), (0, .ref h0), (1, .int 120)] ∧ g = F0 m 13 ls []) ?_ ?_ 120 _ _ _ _ _ ⟨0, q_1, 4, fun _ => 0, ls, rfl, by decide, by decide, (fun j hj => absurd hj (Nat.not_lt_zero _)), rfl, rfl, hP, hD, hS, lv_sub hl [0, 1, 2] rfl, rfl⟩
  · intro H locs k sl g hI
    obtain ⟨i, q, nn, f, ls, hi, h1, h2, h3, rfl, rfl, hP, hD, hS, hl, rfl⟩ := hI
    have ei : i = 120 := hi
    subst ei
    refine lv_iload_n hx hb dX0_init__13 rfl (lv_at hl 0 rfl) ?_
    refine lv_iload_n hx hb dX0_init__14 rfl (lv_at hl 2 rfl) ?_
    refine lv_icmp_ge (tgt := 30) hx hb dX0_init__15 (by decide) (fun c_3 => ?_) (fun c_3 => absurd (by decide) c_3)
    have hP9 := hP.sub (ws' := [(h0, .inr (0, [.ref q, .int (nI 120)])), (q, .inl (cI, nn, .inl f))]) [0, 1] rfl
    have hD9 := hD.sub (ws' := [(h0, .inr (0, [.ref q, .int (nI 120)])), (q, .inl (cI, nn, .inl f))]) [0, 1] (by decide) rfl
    refine W.widen (k := 121) (n := 72484) (show 1 + 120 ≤ 121 by omega) (show 4 + 604 * 120 ≤ 72484 by omega) ?_
    exact W.vret hx hb hr (fun t ht hW => ⟨⟨(), rfl, trivial, q, nn, f, ⟨h1, h2, h3⟩, by rw [ht]; exact hP9, va_K.moved hW.alike hK, hD9⟩, hS.F ht⟩) hS.2.2 dX0_init__30
  · intro n ih H locs k sl g hI
    obtain ⟨i, q, nn, f, ls, hi, h1, h2, h3, rfl, rfl, hP, hD, hS, hl, rfl⟩ := hI
    have hlt : i < 120 := by omega
    refine lv_iload_n hx hb dX0_init__13 rfl (lv_at hl 0 rfl) ?_
    refine lv_iload_n hx hb dX0_init__14 rfl (lv_at hl 2 rfl) ?_
    refine lv_icmp_ge (tgt := 30) hx hb dX0_init__15 (by decide) (fun c_4 => absurd c_4 (fun h9 => absurd ((nI_leI (a := 120) (by omega) (by omega)).mp h9) (by omega))) (fun c_4 => ?_)
    refine lv_aload_n hx hb dX0_init__18 rfl (lv_at hl 1 rfl) ?_
    refine lv_bipush (v := (-9)) hx hb dX0_init__19 (by decide) ?_
    have hPc := hP.sub (ws' := [(h0, .inr (0, [.ref q, .int (nI i)])), (q, .inl (cI, nn, .inl f))]) [0, 1] rfl
    have hDc := hD.sub (ws' := [(h0, .inr (0, [.ref q, .int (nI i)])), (q, .inl (cI, nn, .inl f))]) [0, 1] (by decide) rfl
    have hFc := va_free (wc := [(h0, .inr (0, [.ref q, .int (nI i)])), (q, .inl (cI, nn, .inl f))]) hD hS hA [0, 1] rfl
    refine va_callv (va_runV (As := [.int ((-9))]) (rest := []) ⟨hx, hb, hml, hown, hts⟩ (i_Row_add l dC dI cI cB cR h0 q i nn f (-9) h1 ((by omega)) ((by omega)) H.size) (cwV 1 hts gX0_init__X0_add rfl rfl rfl (by decide +kernel) ⟨Nat.le_of_ble_eq_true rfl, Nat.le_of_ble_eq_true rfl⟩) ⟨fun a U g mk q => by obtain ⟨q0, q1, qP, qK, qD⟩ := q; exact ⟨q0, q1, qP, va_K.moved (u := U) (U := U.calling g mk a) (Vm.Alike.refl U.vm) qK, qD⟩, va_recv hK hPc (ci := 0) (q0 := 0) rfl rfl, fun U hU hW => ⟨rfl, by rw [hU], by rw [hU]; exact hPc, va_K.moved hW.alike hK, hDc.weaken (fun _ _ _ _ => trivial)⟩⟩ rfl rfl hl.1 rfl (lv_room (Nat.le_of_ble_eq_true rfl)) dX0_init__21 ⟨(show 1 + i + 1 ≤ 121 by omega), (show 4 + 604 * i + 604 ≤ 72484 by omega)⟩) hS (fun q _ h => hFc q h) hFc (fun u t H1 locs ht hvm hw hB hz1 hk1 hS => ?_)
    obtain ⟨y_6, y_7, y_8, p_9, hP1, hK1, hD1⟩ := hB
    rw [ht] at hP1
    obtain ⟨hP, hD⟩ := va_join (wr := []) (w1 := [(h0, .inr (0, [.ref y_6, .int (nI (i + 1))])), (y_6, .inl (cI, y_7, .inl y_8))]) hP hD [0, 1] [] rfl rfl (by decide) (by decide) hk1 hFc hP1 hD1
    generalize H1 = H at hP hS ⊢
    have hP : va_P (dC, dI) vwCl [(h0, .inr (0, [.ref y_6, .int (nI (i + 1))])), (y_6, .inl (cI, y_7, .inl y_8))] H := hP
    have hD : va_D A [(h0, .inr (0, [.ref y_6, .int (nI (i + 1))])), (y_6, .inl (cI, y_7, .inl y_8))] := hD
    refine lv_iinc (v := nI (i + 1)) (lv' := [(2, .int (nI (i + 1))), (0, .ref h0), (1, .int 120)]) hx hb dX0_init__24 hl (k := 0) rfl (by rw [← nI_1]; rfl) (by decide) rfl (fun ls hl => ?_)
    refine lv_goto (tgt := 13) hx hb dX0_init__27 (by decide) ?_
    exact ih _ _ _ _ _ ⟨i + 1, y_6, y_7, y_8, ls, by omega, p_9.1, by have := p_9.2.1; omega, (fun j hj => (Nat.lt_or_ge j i).elim (fun h => (p_9.2.2.1 j h).trans (h3 j h)) (fun h => (show j = i by omega) ▸ p_9.2.2.2)), by omega, by omega, hP, hD, hS, lv_sub hl [0, 1, 2] rfl, rfl⟩

set_option maxHeartbeats 4000000 in
set_option maxRecDepth 100000 in
/-- Row(300) -/
theorem i9_Row_initN_300 (l : Launch) (dC : Nat → ClassId) (dI : Nat → Nat → Nat) (cI cB cR : ClassId) (h0 : Nat) (sz : Nat) : Met l yX0_init_ wsX0_init_ ({ frames := 3, cells := 301, slots := 181204, locals := 103 }) (va_Pc [.ref h0, .int 300] (fun U => U.heap.size = sz ∧ va_P (dC, dI) vwCl [(h0, .inr (0, [.null, .int 0]))] U.heap ∧ va_K (dC, dI) vwCl [(cI, .int), (cB, .byte), (cR, .object RX0)] U ∧ va_D (fun _ => True) [(h0, .inr (0, [.null, .int 0]))])) (va_Qv (fun (_ : Unit) => True) (fun (_ : Unit) (t : State) => ∃ (q : Nat), ∃ (n : Nat), ∃ (f : Nat → Int32), (300 ≤ n ∧ n ≤ 604 ∧ ∀ j, j < 300 → f j = -9) ∧ va_P (dC, dI) vwCl [(h0, .inr (0, [.ref q, .int (nI 300)])), (q, .inl (cI, n, .inl f))] t.heap ∧ va_K (dC, dI) vwCl [(cI, .int), (cB, .byte), (cR, .object RX0)] t ∧ va_D (va_A [(h0, .inr (0, [.null, .int 0]))] sz) [(h0, .inr (0, [.ref q, .int (nI 300)])), (q, .inl (cI, n, .inl f))]) (va_A [(h0, .inr (0, [.null, .int 0]))] sz)) 301 181204 (va_A [(h0, .inr (0, [.null, .int 0]))] sz) := by
  refine Met.ofW (cc := cX0_init_) (maxL := 3) (ret := none) (by decide) rfl ?_
  intro p e s m args below meth c s₁ B hml hv
  obtain ⟨rfl, hsz, hP, hK, hD0⟩ := hv
  have hx := B.exec
  have hb := B.bytes
  have hr := B.returns
  have hts := atoms_spec (ws := wsX0_init_) B.pre
  have hown : s.vm.findClass RX0 = some m.cls := findClass_of_methodNamed B.named
  have hlocks := B.notSynchronized
  have hin : meth.name = "<init>" := (name_of_methodNamed B.named B.method).1
  subst hsz
  have hD := hD0.self (sz := s.heap.size)
  generalize hAe : va_A [(h0, .inr (0, [.null, .int 0]))] s.heap.size = A at hD ⊢
  have hA : ∀ q : Nat, s.heap.size ≤ q → A q := fun q h => by rw [← hAe]; exact Or.inr h
  have hS : va_S A s.heap s.heap [] := va_S.rf
  have hP : va_P (dC, dI) vwCl [(h0, .inr (0, [.null, .int 0]))] s.heap := hP
  have hl := lv_entry ([.ref h0, .int 300]) (n := 3) (Nat.le_of_ble_eq_true rfl)
  rw [lg_entry_eq]
  generalize (lg_sl ([.ref h0, .int 300]) ++ List.replicate (3 - (lg_sl ([.ref h0, .int 300])).length) Slot.unset).toArray = ls at hl ⊢
  have hl : lv_has ls 3 [(0, .ref h0), (1, .int 300)] := hl
  obtain ⟨H, hHe⟩ : ∃ H : Heap, H = s.heap := ⟨_, rfl⟩
  rw [← hHe] at hP ⊢
  have hS : va_S A s.heap H [] := by rw [hHe]; exact va_S.rf
  refine lv_aload_n hx hb dX0_init__0 rfl (lv_at hl 0 rfl) ?_
  refine W.objInit hx hb hown (hts (.methodLink RX0 3 objectInit) (List.mem_of_getElem? (i := 1) (by decide +kernel))) (hts (.instanceMethod objectInit) (List.mem_of_getElem? (i := 2) (by decide +kernel))) (hts (.code objectInit ⟨#[0xb1]⟩ 1 none) (List.mem_of_getElem? (i := 3) (by decide +kernel))) rfl (by rw [hml]; exact hl.1) rfl dX0_init__1 (Nat.le_of_ble_eq_true rfl) (Nat.le_of_ble_eq_true rfl) ?_
  refine W.eq (g2 := F0 m 4 ls []) rfl ?_
  refine lv_aload_n hx hb dX0_init__4 rfl (lv_at hl 0 rfl) ?_
  refine lv_iconst (v := 4) hx hb dX0_init__5 (by decide) ?_
  refine va_newa (atype := .int) (ty := .int) hx hb (hts (.arrayClass .int) (List.mem_of_getElem? (i := 4) (by decide +kernel))) rfl hK hP hD hS hA (N' := 4) (a0 := (4, .inl (fun _ => 0))) (fun _ => rfl) (by decide) (by decide) (Nat.le_of_ble_eq_true rfl) (Nat.le_of_ble_eq_true rfl) (Nat.le_of_ble_eq_true rfl) dX0_init__6 (fun q_1 cA_2 H hKn hP hD hS => ?_)
  have ecA_2 : cA_2 = cI := vk_int hKn (i := 3) (j := 0) rfl rfl
  rw [ecA_2] at hP hD
  have hP : va_P (dC, dI) vwCl [(h0, .inr (0, [.null, .int 0])), (q_1, .inl (cI, 4, .inl (fun _ => 0)))] H := hP
  have hD : va_D A [(h0, .inr (0, [.null, .int 0])), (q_1, .inl (cI, 4, .inl (fun _ => 0)))] := hD
  refine W.widen (k := 1) (n := 4) (Nat.le_of_ble_eq_true rfl) (Nat.le_of_ble_eq_true rfl) ?_
  refine va_put (D := (dC, dI)) (ci := 0) (v := .ref q_1) (ty := .array .int) (C := RX0) (T := TX0) (N := 2) hx hb hts (fun w h => List.mem_cons_of_mem _ (List.mem_append_right _ h)) tyX0 tyX0_ok nmX0 hown hK hP hD hS 0 rfl rfl 0 (by decide) (hts (.fieldLink RX0 9 "PolarTypes$Row" "items" "[I") (List.mem_of_getElem? (i := 5) (by decide +kernel))) (fun _ h9 => h9) rfl (by decide +kernel) rfl rfl (Nat.le_of_ble_eq_true rfl) dX0_init__8 (fun H locs hP hD hS => ?_)
  have hP : va_P (dC, dI) vwCl [(h0, .inr (0, [.ref q_1, .int 0])), (q_1, .inl (cI, 4, .inl (fun _ => 0)))] H := hP
  have hD : va_D A [(h0, .inr (0, [.ref q_1, .int 0])), (q_1, .inl (cI, 4, .inl (fun _ => 0)))] := hD
  refine lv_iconst (v := 0) hx hb dX0_init__11 (by decide) ?_
  refine lv_istore_n (lv' := [(2, .int 0), (0, .ref h0), (1, .int 300)]) hx hb dX0_init__12 rfl hl (by decide) rfl (fun ls hl => ?_)
  refine w_loop (fun n H locs k sl g => ∃ (i q nn : Nat) (f : Nat → Int32) (ls : Array Slot), i + n = 300 ∧ i ≤ nn ∧ nn ≤ 2 * i + 4 ∧ (∀ j, j < i → f j = -9) ∧ k = 1 + i ∧ sl = 4 + 604 * i ∧ va_P (dC, dI) vwCl [(h0, .inr (0, [.ref q, .int (nI i)])), (q, .inl (cI, nn, .inl f))] H ∧ va_D A [(h0, .inr (0, [.ref q, .int (nI i)])), (q, .inl (cI, nn, .inl f))] ∧ va_S A s.heap H locs ∧ lv_has ls 3 [(2, .int (nI i)), (0, .ref h0), (1, .int 300)] ∧ g = F0 m 13 ls []) ?_ ?_ 300 _ _ _ _ _ ⟨0, q_1, 4, fun _ => 0, ls, rfl, by decide, by decide, (fun j hj => absurd hj (Nat.not_lt_zero _)), rfl, rfl, hP, hD, hS, lv_sub hl [0, 1, 2] rfl, rfl⟩
  · intro H locs k sl g hI
    obtain ⟨i, q, nn, f, ls, hi, h1, h2, h3, rfl, rfl, hP, hD, hS, hl, rfl⟩ := hI
    have ei : i = 300 := hi
    subst ei
    refine lv_iload_n hx hb dX0_init__13 rfl (lv_at hl 0 rfl) ?_
    refine lv_iload_n hx hb dX0_init__14 rfl (lv_at hl 2 rfl) ?_
    refine lv_icmp_ge (tgt := 30) hx hb dX0_init__15 (by decide) (fun c_3 => ?_) (fun c_3 => absurd (by decide) c_3)
    have hP9 := hP.sub (ws' := [(h0, .inr (0, [.ref q, .int (nI 300)])), (q, .inl (cI, nn, .inl f))]) [0, 1] rfl
    have hD9 := hD.sub (ws' := [(h0, .inr (0, [.ref q, .int (nI 300)])), (q, .inl (cI, nn, .inl f))]) [0, 1] (by decide) rfl
    refine W.widen (k := 301) (n := 181204) (show 1 + 300 ≤ 301 by omega) (show 4 + 604 * 300 ≤ 181204 by omega) ?_
    exact W.vret hx hb hr (fun t ht hW => ⟨⟨(), rfl, trivial, q, nn, f, ⟨h1, h2, h3⟩, by rw [ht]; exact hP9, va_K.moved hW.alike hK, hD9⟩, hS.F ht⟩) hS.2.2 dX0_init__30
  · intro n ih H locs k sl g hI
    obtain ⟨i, q, nn, f, ls, hi, h1, h2, h3, rfl, rfl, hP, hD, hS, hl, rfl⟩ := hI
    have hlt : i < 300 := by omega
    refine lv_iload_n hx hb dX0_init__13 rfl (lv_at hl 0 rfl) ?_
    refine lv_iload_n hx hb dX0_init__14 rfl (lv_at hl 2 rfl) ?_
    refine lv_icmp_ge (tgt := 30) hx hb dX0_init__15 (by decide) (fun c_4 => absurd c_4 (fun h9 => absurd ((nI_leI (a := 300) (by omega) (by omega)).mp h9) (by omega))) (fun c_4 => ?_)
    refine lv_aload_n hx hb dX0_init__18 rfl (lv_at hl 1 rfl) ?_
    refine lv_bipush (v := (-9)) hx hb dX0_init__19 (by decide) ?_
    have hPc := hP.sub (ws' := [(h0, .inr (0, [.ref q, .int (nI i)])), (q, .inl (cI, nn, .inl f))]) [0, 1] rfl
    have hDc := hD.sub (ws' := [(h0, .inr (0, [.ref q, .int (nI i)])), (q, .inl (cI, nn, .inl f))]) [0, 1] (by decide) rfl
    have hFc := va_free (wc := [(h0, .inr (0, [.ref q, .int (nI i)])), (q, .inl (cI, nn, .inl f))]) hD hS hA [0, 1] rfl
    refine va_callv (va_runV (As := [.int ((-9))]) (rest := []) ⟨hx, hb, hml, hown, hts⟩ (i_Row_add l dC dI cI cB cR h0 q i nn f (-9) h1 ((by omega)) ((by omega)) H.size) (cwV 1 hts gX0_init__X0_add rfl rfl rfl (by decide +kernel) ⟨Nat.le_of_ble_eq_true rfl, Nat.le_of_ble_eq_true rfl⟩) ⟨fun a U g mk q => by obtain ⟨q0, q1, qP, qK, qD⟩ := q; exact ⟨q0, q1, qP, va_K.moved (u := U) (U := U.calling g mk a) (Vm.Alike.refl U.vm) qK, qD⟩, va_recv hK hPc (ci := 0) (q0 := 0) rfl rfl, fun U hU hW => ⟨rfl, by rw [hU], by rw [hU]; exact hPc, va_K.moved hW.alike hK, hDc.weaken (fun _ _ _ _ => trivial)⟩⟩ rfl rfl hl.1 rfl (lv_room (Nat.le_of_ble_eq_true rfl)) dX0_init__21 ⟨(show 1 + i + 1 ≤ 301 by omega), (show 4 + 604 * i + 604 ≤ 181204 by omega)⟩) hS (fun q _ h => hFc q h) hFc (fun u t H1 locs ht hvm hw hB hz1 hk1 hS => ?_)
    obtain ⟨y_6, y_7, y_8, p_9, hP1, hK1, hD1⟩ := hB
    rw [ht] at hP1
    obtain ⟨hP, hD⟩ := va_join (wr := []) (w1 := [(h0, .inr (0, [.ref y_6, .int (nI (i + 1))])), (y_6, .inl (cI, y_7, .inl y_8))]) hP hD [0, 1] [] rfl rfl (by decide) (by decide) hk1 hFc hP1 hD1
    generalize H1 = H at hP hS ⊢
    have hP : va_P (dC, dI) vwCl [(h0, .inr (0, [.ref y_6, .int (nI (i + 1))])), (y_6, .inl (cI, y_7, .inl y_8))] H := hP
    have hD : va_D A [(h0, .inr (0, [.ref y_6, .int (nI (i + 1))])), (y_6, .inl (cI, y_7, .inl y_8))] := hD
    refine lv_iinc (v := nI (i + 1)) (lv' := [(2, .int (nI (i + 1))), (0, .ref h0), (1, .int 300)]) hx hb dX0_init__24 hl (k := 0) rfl (by rw [← nI_1]; rfl) (by decide) rfl (fun ls hl => ?_)
    refine lv_goto (tgt := 13) hx hb dX0_init__27 (by decide) ?_
    exact ih _ _ _ _ _ ⟨i + 1, y_6, y_7, y_8, ls, by omega, p_9.1, by have := p_9.2.1; omega, (fun j hj => (Nat.lt_or_ge j i).elim (fun h => (p_9.2.2.1 j h).trans (h3 j h)) (fun h => (show j = i by omega) ▸ p_9.2.2.2)), by omega, by omega, hP, hD, hS, lv_sub hl [0, 1, 2] rfl, rfl⟩

