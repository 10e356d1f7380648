theorem dX0_init_0 : decode cX0_init 0 = .ok (.aload_n 0, 1) := by decide +kernel
theorem dX0_init_1 : decode cX0_init 1 = .ok (.invokespecial 3, 3) := by decide +kernel
theorem dX0_init_4 : decode cX0_init 4 = .ok (.aload_n 0, 1) := by decide +kernel
theorem dX0_init_5 : decode cX0_init 5 = .ok (.iconst 4, 1) := by decide +kernel
theorem dX0_init_6 : decode cX0_init 6 = .ok (.newarray .int, 2) := by decide +kernel
theorem dX0_init_8 : decode cX0_init 8 = .ok (.putfield 9, 3) := by decide +kernel
theorem dX0_init_11 : decode cX0_init 11 = .ok (.return_, 1) := by decide +kernel
theorem dJ7_copyOf_59c91_0 : decode cJ7_copyOf_59c91 0 = .ok (.iload_n 1, 1) := by decide +kernel
theorem dJ7_copyOf_59c91_1 : decode cJ7_copyOf_59c91 1 = .ok (.aload_n 0, 1) := by decide +kernel
theorem dJ7_copyOf_59c91_2 : decode cJ7_copyOf_59c91 2 = .ok (.arraylength, 1) := by decide +kernel
theorem dJ7_copyOf_59c91_3 : decode cJ7_copyOf_59c91 3 = .ok (.if_icmp .ne 11, 3) := by decide +kernel
theorem dJ7_copyOf_59c91_14 : decode cJ7_copyOf_59c91 14 = .ok (.iload_n 1, 1) := by decide +kernel
theorem dJ7_copyOf_59c91_15 : decode cJ7_copyOf_59c91 15 = .ok (.newarray .int, 2) := by decide +kernel
theorem dJ7_copyOf_59c91_17 : decode cJ7_copyOf_59c91 17 = .ok (.astore_n 2, 1) := by decide +kernel
theorem dJ7_copyOf_59c91_18 : decode cJ7_copyOf_59c91 18 = .ok (.aload_n 0, 1) := by decide +kernel
theorem dJ7_copyOf_59c91_19 : decode cJ7_copyOf_59c91 19 = .ok (.iconst 0, 1) := by decide +kernel
theorem dJ7_copyOf_59c91_20 : decode cJ7_copyOf_59c91 20 = .ok (.aload_n 2, 1) := by decide +kernel
theorem dJ7_copyOf_59c91_21 : decode cJ7_copyOf_59c91 21 = .ok (.iconst 0, 1) := by decide +kernel
theorem dJ7_copyOf_59c91_22 : decode cJ7_copyOf_59c91 22 = .ok (.aload_n 0, 1) := by decide +kernel
theorem dJ7_copyOf_59c91_23 : decode cJ7_copyOf_59c91 23 = .ok (.arraylength, 1) := by decide +kernel
theorem dJ7_copyOf_59c91_24 : decode cJ7_copyOf_59c91 24 = .ok (.iload_n 1, 1) := by decide +kernel
theorem dJ7_copyOf_59c91_25 : decode cJ7_copyOf_59c91 25 = .ok (.invokestatic 304, 3) := by decide +kernel
theorem dJ7_copyOf_59c91_28 : decode cJ7_copyOf_59c91 28 = .ok (.invokestatic 150, 3) := by decide +kernel
theorem dJ7_copyOf_59c91_31 : decode cJ7_copyOf_59c91 31 = .ok (.aload_n 2, 1) := by decide +kernel
theorem dJ7_copyOf_59c91_32 : decode cJ7_copyOf_59c91 32 = .ok (.areturn, 1) := by decide +kernel
theorem dX0_add_0 : decode cX0_add 0 = .ok (.aload_n 0, 1) := by decide +kernel
theorem dX0_add_1 : decode cX0_add 1 = .ok (.getfield 19, 3) := by decide +kernel
theorem dX0_add_4 : decode cX0_add 4 = .ok (.aload_n 0, 1) := by decide +kernel
theorem dX0_add_5 : decode cX0_add 5 = .ok (.getfield 9, 3) := by decide +kernel
theorem dX0_add_8 : decode cX0_add 8 = .ok (.arraylength, 1) := by decide +kernel
theorem dX0_add_9 : decode cX0_add 9 = .ok (.if_icmp .lt 22, 3) := by decide +kernel
theorem dX0_add_31 : decode cX0_add 31 = .ok (.aload_n 0, 1) := by decide +kernel
theorem dX0_add_32 : decode cX0_add 32 = .ok (.getfield 9, 3) := by decide +kernel
theorem dX0_add_35 : decode cX0_add 35 = .ok (.aload_n 0, 1) := by decide +kernel
theorem dX0_add_36 : decode cX0_add 36 = .ok (.getfield 19, 3) := by decide +kernel
theorem dX0_add_39 : decode cX0_add 39 = .ok (.iload_n 1, 1) := by decide +kernel
theorem dX0_add_40 : decode cX0_add 40 = .ok (.iastore, 1) := by decide +kernel
theorem dX0_add_41 : decode cX0_add 41 = .ok (.aload_n 0, 1) := by decide +kernel
theorem dX0_add_42 : decode cX0_add 42 = .ok (.dup, 1) := by decide +kernel
theorem dX0_add_43 : decode cX0_add 43 = .ok (.getfield 19, 3) := by decide +kernel
theorem dX0_add_46 : decode cX0_add 46 = .ok (.iconst 1, 1) := by decide +kernel
theorem dX0_add_47 : decode cX0_add 47 = .ok (.iadd, 1) := by decide +kernel
theorem dX0_add_48 : decode cX0_add 48 = .ok (.putfield 19, 3) := by decide +kernel
theorem dX0_add_51 : decode cX0_add 51 = .ok (.return_, 1) := by decide +kernel
theorem dX0_add_12 : decode cX0_add 12 = .ok (.aload_n 0, 1) := by decide +kernel
theorem dX0_add_13 : decode cX0_add 13 = .ok (.aload_n 0, 1) := by decide +kernel
theorem dX0_add_14 : decode cX0_add 14 = .ok (.getfield 9, 3) := by decide +kernel
theorem dX0_add_17 : decode cX0_add 17 = .ok (.iconst 2, 1) := by decide +kernel
theorem dX0_add_18 : decode cX0_add 18 = .ok (.aload_n 0, 1) := by decide +kernel
theorem dX0_add_19 : decode cX0_add 19 = .ok (.getfield 19, 3) := by decide +kernel
theorem dX0_add_22 : decode cX0_add 22 = .ok (.imul, 1) := by decide +kernel
theorem dX0_add_23 : decode cX0_add 23 = .ok (.iconst 4, 1) := by decide +kernel
theorem dX0_add_24 : decode cX0_add 24 = .ok (.iadd, 1) := by decide +kernel
set_option maxRecDepth 20000 in
theorem ggX0_add_J7_copyOf_59c91 : GoodIn wsX0_add wsJ7_copyOf_59c91 := goodIn_r _ [6, 7, 8, 9, 10, 11, 12, 13, 14, 15, 16, 17, 18, 19, 20, 21] (by decide +kernel) (by decide +kernel)
set_option maxRecDepth 20000 in
theorem gX0_add_J7_copyOf_59c91 : GoodIn wsX0_add (va_wsS RX0 23 yJ7_copyOf_59c91 wsJ7_copyOf_59c91) := goodIn_app (goodIn_of _ (by decide +kernel)) ggX0_add_J7_copyOf_59c91
theorem dX0_add_25 : decode cX0_add 25 = .ok (.invokestatic 23, 3) := by decide +kernel
theorem dX0_add_28 : decode cX0_add 28 = .ok (.putfield 9, 3) := by decide +kernel
set_option maxHeartbeats 4000000 in
set_option maxRecDepth 100000 in
/-- Row(): four places, none taken -/
theorem c_Row_init (l : Launch) (dC : Nat → ClassId) (dI : Nat → Nat → Nat) (cI : ClassId) (h0 : Nat) (sz : Nat) : Met l yX0_init wsX0_init ({ frames := 1, cells := 1, slots := 4, locals := 14 }) (va_Pc [.ref h0] (fun U => U.heap.size = sz ∧ va_P (dC, dI) vwCl [(h0, .inr (0, [.null, .int 0]))] U.heap ∧ va_K (dC, dI) vwCl [(cI, .int)] U ∧ va_D (fun _ => True) [(h0, .inr (0, [.null, .int 0]))])) (va_Qv (fun (_ : Unit) => True) (fun (_ : Unit) (t : State) => ∃ (q : Nat), va_P (dC, dI) vwCl [(h0, .inr (0, [.ref q, .int (nI 0)])), (q, .inl (cI, 4, .inl (fun _ => 0)))] t.heap ∧ va_K (dC, dI) vwCl [(cI, .int)] t ∧ va_D (va_A [(h0, .inr (0, [.null, .int 0]))] sz) [(h0, .inr (0, [.ref q, .int (nI 0)])), (q, .inl (cI, 4, .inl (fun _ => 0)))]) (va_A [(h0, .inr (0, [.null, .int 0]))] sz)) 1 4 (va_A [(h0, .inr (0, [.null, .int 0]))] sz) := by
  refine Met.ofW (cc := cX0_init) (maxL := 1) (ret := none) (by decide) rfl ?_
  intro p e s m args below meth c s₁ B hml hv
  obtain ⟨rfl, hsz, hP, hK, hD0⟩ := hv
  have hx := B.exec
  have hb := B.bytes
  have hr := B.returns
  have hts := atoms_spec (ws := wsX0_init) B.pre
  have hown : s.vm.findClass RX0 = some m.cls := findClass_of_methodNamed B.named
  have hlocks := B.notSynchronized
  have hin : meth.name = "<init>" := (name_of_methodNamed B.named B.method).1
  subst hsz
  have hD := hD0.self (sz := s.heap.size)
  generalize hAe : va_A [(h0, .inr (0, [.null, .int 0]))] s.heap.size = A at hD ⊢
  have hA : ∀ q : Nat, s.heap.size ≤ q → A q := fun q h => by rw [← hAe]; exact Or.inr h
  have hS : va_S A s.heap s.heap [] := va_S.rf
  have hP : va_P (dC, dI) vwCl [(h0, .inr (0, [.null, .int 0]))] s.heap := hP
  have hl := lv_entry ([.ref h0]) (n := 1) (Nat.le_of_ble_eq_true rfl)
  rw [lg_entry_eq]
  generalize (lg_sl ([.ref h0]) ++ List.replicate (1 - (lg_sl ([.ref h0])).length) Slot.unset).toArray = ls at hl ⊢
  have hl : lv_has ls 1 [(0, .ref h0)] := hl
  obtain ⟨H, hHe⟩ : ∃ H : Heap, H = s.heap := ⟨_, rfl⟩
  rw [← hHe] at hP ⊢
  have hS : va_S A s.heap H [] := by rw [hHe]; exact va_S.rf
  refine lv_aload_n hx hb dX0_init_0 rfl (lv_at hl 0 rfl) ?_
  refine W.objInit hx hb hown (hts (.methodLink RX0 3 objectInit) (List.mem_of_getElem? (i := 1) (by decide +kernel))) (hts (.instanceMethod objectInit) (List.mem_of_getElem? (i := 2) (by decide +kernel))) (hts (.code objectInit ⟨#[0xb1]⟩ 1 none) (List.mem_of_getElem? (i := 3) (by decide +kernel))) rfl (by rw [hml]; exact hl.1) rfl dX0_init_1 (Nat.le_of_ble_eq_true rfl) (Nat.le_of_ble_eq_true rfl) ?_
  refine W.eq (g2 := F0 m 4 ls []) rfl ?_
  refine lv_aload_n hx hb dX0_init_4 rfl (lv_at hl 0 rfl) ?_
  refine lv_iconst (v := 4) hx hb dX0_init_5 (by decide) ?_
  refine va_newa (atype := .int) (ty := .int) hx hb (hts (.arrayClass .int) (List.mem_of_getElem? (i := 4) (by decide +kernel))) rfl hK hP hD hS hA (N' := 4) (a0 := (4, .inl (fun _ => 0))) (fun _ => rfl) (by decide) (by decide) (Nat.le_of_ble_eq_true rfl) (Nat.le_of_ble_eq_true rfl) (Nat.le_of_ble_eq_true rfl) dX0_init_6 (fun q_1 cA_2 H hKn hP hD hS => ?_)
  have ecA_2 : cA_2 = cI := vk_int hKn (i := 1) (j := 0) rfl rfl
  rw [ecA_2] at hP hD
  have hP : va_P (dC, dI) vwCl [(h0, .inr (0, [.null, .int 0])), (q_1, .inl (cI, 4, .inl (fun _ => 0)))] H := hP
  have hD : va_D A [(h0, .inr (0, [.null, .int 0])), (q_1, .inl (cI, 4, .inl (fun _ => 0)))] := hD
  refine W.widen (k := 1) (n := 4) (Nat.le_of_ble_eq_true rfl) (Nat.le_of_ble_eq_true rfl) ?_
  refine va_put (D := (dC, dI)) (ci := 0) (v := .ref q_1) (ty := .array .int) (C := RX0) (T := TX0) (N := 2) hx hb hts (fun w h => List.mem_cons_of_mem _ (List.mem_append_right _ h)) tyX0 tyX0_ok nmX0 hown hK hP hD hS 0 rfl rfl 0 (by decide) (hts (.fieldLink RX0 9 "PolarTypes$Row" "items" "[I") (List.mem_of_getElem? (i := 5) (by decide +kernel))) (fun _ h9 => h9) rfl (by decide +kernel) rfl rfl (Nat.le_of_ble_eq_true rfl) dX0_init_8 (fun H locs hP hD hS => ?_)
  have hP : va_P (dC, dI) vwCl [(h0, .inr (0, [.ref q_1, .int 0])), (q_1, .inl (cI, 4, .inl (fun _ => 0)))] H := hP
  have hD : va_D A [(h0, .inr (0, [.ref q_1, .int 0])), (q_1, .inl (cI, 4, .inl (fun _ => 0)))] := hD
  have hP9 := hP.sub (ws' := [(h0, .inr (0, [.ref q_1, .int (nI 0)])), (q_1, .inl (cI, 4, .inl (fun _ => 0)))]) [0, 1] rfl
  have hD9 := hD.sub (ws' := [(h0, .inr (0, [.ref q_1, .int (nI 0)])), (q_1, .inl (cI, 4, .inl (fun _ => 0)))]) [0, 1] (by decide) rfl
  refine W.widen (k := 1) (n := 4) (Nat.le_of_ble_eq_true rfl) (Nat.le_of_ble_eq_true rfl) ?_
  exact W.vret hx hb hr (fun t ht hW => ⟨⟨(), rfl, trivial, q_1, by rw [ht]; exact hP9, va_K.moved hW.alike hK, hD9⟩, hS.F ht⟩) hS.2.2 dX0_init_11

set_option maxHeartbeats 4000000 in
set_option maxRecDepth 100000 in
/-- Arrays.copyOf to a greater length: the old places as they were -/
theorem c_copyOf (l : Launch) (dC : Nat → ClassId) (dI : Nat → Nat → Nat) (cI : ClassId) (q : Nat) (n : Nat) (n2 : Nat) (f : Nat → Int32) (hn : n < n2) (hb : n2 ≤ 100000) (Hs : Heap) : Met l yJ7_copyOf_59c91 wsJ7_copyOf_59c91 ({ frames := 1, cells := 1, slots := n2, locals := 60 }) (va_Pc [.ref q, .int (nI n2)] (fun U => U.heap = Hs ∧ va_P (dC, dI) vwCl [(q, .inl (cI, n, .inl f))] U.heap ∧ va_K (dC, dI) vwCl [(cI, .int)] U ∧ va_D (fun _ => True) [(q, .inl (cI, n, .inl f))])) (va_Qr (fun (_ : Unit) => True) (fun (_ : Unit) (ra : Nat) (t : State) => ∃ (g : Nat → Int32), (∀ j, j < n → g j = f j) ∧ va_P (dC, dI) vwCl [(q, .inl (cI, n, .inl f)), (ra, .inl (cI, n2, .inl g))] t.heap ∧ va_K (dC, dI) vwCl [(cI, .int)] t ∧ va_D (va_A [(q, .inl (cI, n, .inl f))] Hs.size) [(q, .inl (cI, n, .inl f)), (ra, .inl (cI, n2, .inl g))] ∧ Gr Hs t.heap 1 n2) (va_A [(q, .inl (cI, n, .inl f))] Hs.size)) 1 n2 (va_A [(q, .inl (cI, n, .inl f))] Hs.size) := by
  refine Met.ofW (cc := cJ7_copyOf_59c91) (maxL := 3) (ret := (some (.array .int))) (by decide) rfl ?_
  intro p e s m args below meth c s₁ B hml hv
  obtain ⟨rfl, hsz, hP, hK, hD0⟩ := hv
  have hx := B.exec
  have hb := B.bytes
  have hr := B.returns
  have hts := atoms_spec (ws := wsJ7_copyOf_59c91) B.pre
  have hown : s.vm.findClass RJ7 = some m.cls := findClass_of_methodNamed B.named
  have hlocks := B.notSynchronized
  subst hsz
  have hD := hD0.self (sz := s.heap.size)
  generalize hAe : va_A [(q, .inl (cI, n, .inl f))] s.heap.size = A at hD ⊢
  have hA : ∀ q : Nat, s.heap.size ≤ q → A q := fun q h => by rw [← hAe]; exact Or.inr h
  have hS : va_S A s.heap s.heap [] := va_S.rf
  have hP : va_P (dC, dI) vwCl [(q, .inl (cI, n, .inl f))] s.heap := hP
  have hl := lv_entry ([.ref q, .int (nI n2)]) (n := 3) (Nat.le_of_ble_eq_true rfl)
  rw [lg_entry_eq]
  generalize (lg_sl ([.ref q, .int (nI n2)]) ++ List.replicate (3 - (lg_sl ([.ref q, .int (nI n2)])).length) Slot.unset).toArray = ls at hl ⊢
  have hl : lv_has ls 3 [(0, .ref q), (1, .int (nI n2))] := hl
  obtain ⟨H, hHe⟩ : ∃ H : Heap, H = s.heap := ⟨_, rfl⟩
  rw [← hHe] at hP ⊢
  have hS : va_S A s.heap H [] := by rw [hHe]; exact va_S.rf
  refine lv_iload_n hx hb dJ7_copyOf_59c91_0 rfl (lv_at hl 1 rfl) ?_
  refine lv_aload_n hx hb dJ7_copyOf_59c91_1 rfl (lv_at hl 0 rfl) ?_
  refine va_alen hx hb hK hP 0 0 rfl rfl (v := nI n) rfl dJ7_copyOf_59c91_2 ?_
  refine lv_icmp_ne (tgt := 14) hx hb dJ7_copyOf_59c91_3 (by decide) (fun c_1 => ?_) (fun c_1 => absurd c_1 (fun h9 => absurd ((nI_eq (by omega) (by omega)).mp h9) (by omega)))
  refine lv_iload_n hx hb dJ7_copyOf_59c91_14 rfl (lv_at hl 1 rfl) ?_
  refine va_newa (atype := .int) (ty := .int) hx hb (hts (.arrayClass .int) (List.mem_of_getElem? (i := 7) (by decide +kernel))) rfl hK hP hD hS hA (N' := n2) (a0 := (n2, .inl (fun _ => 0))) (fun _ => rfl) (nI_pos (by omega)) (nI_clamp (by omega)) (show n2 * 4 ≤ 536870912 by omega) (show 0 + 1 ≤ 1 by omega) (show 0 + n2 ≤ n2 by omega) dJ7_copyOf_59c91_15 (fun q_4 cA_5 H hKn hP hD hS => ?_)
  have ecA_5 : cA_5 = cI := vk_int hKn (i := 1) (j := 0) rfl rfl
  rw [ecA_5] at hP hD
  have hP : va_P (dC, dI) vwCl [(q, .inl (cI, n, .inl f)), (q_4, .inl (cI, n2, .inl (fun _ => 0)))] H := hP
  have hD : va_D A [(q, .inl (cI, n, .inl f)), (q_4, .inl (cI, n2, .inl (fun _ => 0)))] := hD
  refine lv_astore_n (lv' := [(2, .ref q_4), (0, .ref q), (1, .int (nI n2))]) hx hb dJ7_copyOf_59c91_17 rfl hl (by decide) rfl (fun ls hl => ?_)
  refine lv_aload_n hx hb dJ7_copyOf_59c91_18 rfl (lv_at hl 1 rfl) ?_
  refine lv_iconst (v := 0) hx hb dJ7_copyOf_59c91_19 (by decide) ?_
  refine lv_aload_n hx hb dJ7_copyOf_59c91_20 rfl (lv_at hl 0 rfl) ?_
  refine lv_iconst (v := 0) hx hb dJ7_copyOf_59c91_21 (by decide) ?_
  refine lv_aload_n hx hb dJ7_copyOf_59c91_22 rfl (lv_at hl 1 rfl) ?_
  refine va_alen hx hb hK hP 0 0 rfl rfl (v := nI n) rfl dJ7_copyOf_59c91_23 ?_
  refine lv_iload_n hx hb dJ7_copyOf_59c91_24 rfl (lv_at hl 2 rfl) ?_
  refine va_mmin hx hb (by rw [hml]; exact hl.1.symm) hown (hts (.methodLink RJ7 304 Lib.Math.min.name) (List.mem_of_getElem? (i := 8) (by decide +kernel))) (hts (.static Lib.Math.min.name) (List.mem_of_getElem? (i := 9) (by decide +kernel))) (hts (.initialized "java/lang/Math") (List.mem_of_getElem? (i := 10) (by decide +kernel))) (hts (.code Lib.Math.min.name Lib.Math.min.code 2 (some .int)) (List.mem_of_getElem? (i := 11) (by decide +kernel))) (Nat.le_of_ble_eq_true rfl) (Nat.le_of_ble_eq_true rfl) (show 0 + 1 ≤ 1 by omega) (show 0 + n2 ≤ n2 by omega) dJ7_copyOf_59c91_25 ?_
  refine lv_topi (fun f_6 ef_6 => ?_)
  have ef_6c : f_6 = nI n := ef_6.trans (if_neg (by rw [i_lt, nI_toInt (by omega), nI_toInt (by omega)]; omega))
  subst ef_6c
  refine va_copyi hx hb (by rw [hml]; exact hl.1.symm) hown (hts (.methodLink RJ7 150 arraycopyName) (List.mem_of_getElem? (i := 12) (by decide +kernel))) (hts (.native arraycopyName) (List.mem_of_getElem? (i := 13) (by decide +kernel))) (hts (.static arraycopyName) (List.mem_of_getElem? (i := 14) (by decide +kernel))) (hts (.initialized "java/lang/System") (List.mem_of_getElem? (i := 15) (by decide +kernel))) hK hP hD hS 0 1 0 0 rfl rfl rfl rfl rfl (by decide) (by decide) (nI_pos (by omega)) (by rw [nI_clamp (by omega)]; show 0 + n ≤ n; omega) (by rw [nI_clamp (by omega)]; show 0 + n ≤ n2; omega) (fun _ _ => rfl) (Nat.le_of_ble_eq_true rfl) (show (List.map (fun v : Value => v.category) ([] : List Value)).sum + (nativeFrameWords "java/lang/System" "arraycopy" 5 + 11) ≤ 60 by decide +kernel) dJ7_copyOf_59c91_28 (fun H locs hP hD hS => ?_)
  obtain ⟨g_7, eg_7⟩ : ∃ y : Nat → Int32, y = va_cpy f (fun _ => 0) (0 : Int32).toNatClampNeg (0 : Int32).toNatClampNeg (nI n).toNatClampNeg := ⟨_, rfl⟩
  rw [← eg_7] at hP hD
  have hP : va_P (dC, dI) vwCl [(q, .inl (cI, n, .inl f)), (q_4, .inl (cI, n2, .inl g_7))] H := hP
  have hD : va_D A [(q, .inl (cI, n, .inl f)), (q_4, .inl (cI, n2, .inl g_7))] := hD
  refine lv_aload_n hx hb dJ7_copyOf_59c91_31 rfl (lv_at hl 0 rfl) ?_
  have hP9 := hP.sub (ws' := [(q, .inl (cI, n, .inl f)), (q_4, .inl (cI, n2, .inl g_7))]) [0, 1] rfl
  have hD9 := hD.sub (ws' := [(q, .inl (cI, n, .inl f)), (q_4, .inl (cI, n2, .inl g_7))]) [0, 1] (by decide) rfl
  refine W.know (fun hG => ?_)
  refine W.widen (k := 1) (n := n2) (show 0 + 1 ≤ 1 by omega) (show 0 + n2 ≤ n2 by omega) ?_
  exact W.aret (v := .ref q_4) hx hb hr (Or.inr ⟨_, rfl⟩) (Or.inr ⟨_, rfl⟩) (fun t ht hW => ⟨⟨(), q_4, rfl, trivial, g_7, (fun j hj => by rw [eg_7]; exact cp_ok hj (by omega)), by rw [ht]; exact hP9, va_K.moved hW.alike hK, hD9, by rw [ht, hHe]; exact hG.mono (by omega) (by omega)⟩, hS.F ht⟩) hS.2.2 dJ7_copyOf_59c91_32

set_option maxHeartbeats 4000000 in
set_option maxRecDepth 100000 in
/-- Row.add: one more; the others as they were -/
theorem g_Row_add (l : Launch) (dC : Nat → ClassId) (dI : Nat → Nat → Nat) (cI : ClassId) (h0 : Nat) (q : Nat) (k : Nat) (n : Nat) (f : Nat → Int32) (x : Int32) (hk : k ≤ n) (hb : k ≤ 20000) (hn : n ≤ 100000) (Hs : Heap) : Met l yX0_add wsX0_add ({ frames := 2, cells := gA k n, slots := gS k n, locals := 82 }) (va_Pc [.ref h0, .int x] (fun U => U.heap = Hs ∧ va_P (dC, dI) vwCl [(h0, .inr (0, [.ref q, .int (nI k)])), (q, .inl (cI, n, .inl f))] U.heap ∧ va_K (dC, dI) vwCl [(cI, .int)] U ∧ va_D (fun _ => True) [(h0, .inr (0, [.ref q, .int (nI k)])), (q, .inl (cI, n, .inl f))])) (va_Qv (fun (_ : Unit) => True) (fun (_ : Unit) (t : State) => ∃ (q2 : Nat), ∃ (g : Nat → Int32), ((∀ j, j < k → g j = f j) ∧ g k = x) ∧ va_P (dC, dI) vwCl [(h0, .inr (0, [.ref q2, .int (nI (k + 1))])), (q2, .inl (cI, gC k n, .inl g))] t.heap ∧ va_K (dC, dI) vwCl [(cI, .int)] t ∧ va_D (va_A [(h0, .inr (0, [.ref q, .int (nI k)])), (q, .inl (cI, n, .inl f))] Hs.size) [(h0, .inr (0, [.ref q2, .int (nI (k + 1))])), (q2, .inl (cI, gC k n, .inl g))] ∧ Gr Hs t.heap (gA k n) (gS k n)) (va_A [(h0, .inr (0, [.ref q, .int (nI k)])), (q, .inl (cI, n, .inl f))] Hs.size)) (gA k n) (gS k n) (va_A [(h0, .inr (0, [.ref q, .int (nI k)])), (q, .inl (cI, n, .inl f))] Hs.size) := by
  refine Met.ofW (cc := cX0_add) (maxL := 2) (ret := none) (by decide) rfl ?_
  intro p e s m args below meth c s₁ B hml hv
  obtain ⟨rfl, hsz, hP, hK, hD0⟩ := hv
  have hx := B.exec
  have hb := B.bytes
  have hr := B.returns
  have hts := atoms_spec (ws := wsX0_add) B.pre
  have hown : s.vm.findClass RX0 = some m.cls := findClass_of_methodNamed B.named
  have hlocks := B.notSynchronized
  subst hsz
  have hD := hD0.self (sz := s.heap.size)
  generalize hAe : va_A [(h0, .inr (0, [.ref q, .int (nI k)])), (q, .inl (cI, n, .inl f))] s.heap.size = A at hD ⊢
  have hA : ∀ q : Nat, s.heap.size ≤ q → A q := fun q h => by rw [← hAe]; exact Or.inr h
  have hS : va_S A s.heap s.heap [] := va_S.rf
  have hP : va_P (dC, dI) vwCl [(h0, .inr (0, [.ref q, .int (nI k)])), (q, .inl (cI, n, .inl f))] s.heap := hP
  have hl := lv_entry ([.ref h0, .int x]) (n := 2) (Nat.le_of_ble_eq_true rfl)
  rw [lg_entry_eq]
  generalize (lg_sl ([.ref h0, .int x]) ++ List.replicate (2 - (lg_sl ([.ref h0, .int x])).length) Slot.unset).toArray = ls at hl ⊢
  have hl : lv_has ls 2 [(0, .ref h0), (1, .int x)] := hl
  obtain ⟨H, hHe⟩ : ∃ H : Heap, H = s.heap := ⟨_, rfl⟩
  rw [← hHe] at hP ⊢
  have hS : va_S A s.heap H [] := by rw [hHe]; exact va_S.rf
  refine lv_aload_n hx hb dX0_add_0 rfl (lv_at hl 0 rfl) ?_
  refine va_get (D := (dC, dI)) (ci := 0) (v := .int (nI k)) (C := RX0) (T := TX0) (N := 2) hx hb hts (fun w h => List.mem_cons_of_mem _ (List.mem_append_right _ h)) hown hK hP 0 rfl rfl 1 (by decide) (hts (.fieldLink RX0 19 "PolarTypes$Row" "size" "I") (List.mem_of_getElem? (i := 1) (by decide +kernel))) (fun _ h9 => h9) rfl dX0_add_1 ?_
  refine lv_aload_n hx hb dX0_add_4 rfl (lv_at hl 0 rfl) ?_
  refine va_get (D := (dC, dI)) (ci := 0) (v := .ref q) (C := RX0) (T := TX0) (N := 2) hx hb hts (fun w h => List.mem_cons_of_mem _ (List.mem_append_right _ h)) hown hK hP 0 rfl rfl 0 (by decide) (hts (.fieldLink RX0 9 "PolarTypes$Row" "items" "[I") (List.mem_of_getElem? (i := 2) (by decide +kernel))) (fun _ h9 => h9) rfl dX0_add_5 ?_
  refine va_alen hx hb hK hP 1 0 rfl rfl (v := nI n) rfl dX0_add_8 ?_
  refine lv_icmp_lt (tgt := 31) hx hb dX0_add_9 (by decide) (fun c_1 => ?_) (fun c_1 => ?_)
  · skip
    have hlt : k < n := (nI_ltI (by omega) (by omega)).mp c_1
    refine lv_aload_n hx hb dX0_add_31 rfl (lv_at hl 0 rfl) ?_
    refine va_get (D := (dC, dI)) (ci := 0) (v := .ref q) (C := RX0) (T := TX0) (N := 2) hx hb hts (fun w h => List.mem_cons_of_mem _ (List.mem_append_right _ h)) hown hK hP 0 rfl rfl 0 (by decide) (hts (.fieldLink RX0 9 "PolarTypes$Row" "items" "[I") (List.mem_of_getElem? (i := 2) (by decide +kernel))) (fun _ h9 => h9) rfl dX0_add_32 ?_
    refine lv_aload_n hx hb dX0_add_35 rfl (lv_at hl 0 rfl) ?_
    refine va_get (D := (dC, dI)) (ci := 0) (v := .int (nI k)) (C := RX0) (T := TX0) (N := 2) hx hb hts (fun w h => List.mem_cons_of_mem _ (List.mem_append_right _ h)) hown hK hP 0 rfl rfl 1 (by decide) (hts (.fieldLink RX0 19 "PolarTypes$Row" "size" "I") (List.mem_of_getElem? (i := 1) (by decide +kernel))) (fun _ h9 => h9) rfl dX0_add_36 ?_
    refine lv_iload_n hx hb dX0_add_39 rfl (lv_at hl 1 rfl) ?_
    refine va_iast hx hb hK hP hD hS 1 0 rfl rfl (vp_in_nI hlt (by omega)) dX0_add_40 (fun H locs hP hD hS => ?_)
    obtain ⟨g_2, eg_2⟩ : ∃ y : Nat → Int32, y = upd f (Int32.toNatClampNeg (nI k)) x := ⟨_, rfl⟩
    rw [← eg_2] at hP hD
    have hP : va_P (dC, dI) vwCl [(h0, .inr (0, [.ref q, .int (nI k)])), (q, .inl (cI, n, .inl g_2))] H := hP
    have hD : va_D A [(h0, .inr (0, [.ref q, .int (nI k)])), (q, .inl (cI, n, .inl g_2))] := hD
    refine lv_aload_n hx hb dX0_add_41 rfl (lv_at hl 0 rfl) ?_
    refine lv_dup hx hb dX0_add_42 rfl ?_
    refine va_get (D := (dC, dI)) (ci := 0) (v := .int (nI k)) (C := RX0) (T := TX0) (N := 2) hx hb hts (fun w h => List.mem_cons_of_mem _ (List.mem_append_right _ h)) hown hK hP 0 rfl rfl 1 (by decide) (hts (.fieldLink RX0 19 "PolarTypes$Row" "size" "I") (List.mem_of_getElem? (i := 1) (by decide +kernel))) (fun _ h9 => h9) rfl dX0_add_43 ?_
    refine lv_iconst (v := 1) hx hb dX0_add_46 (by decide) ?_
    refine lv_iadd hx hb dX0_add_47 ?_
    refine lv_topi (fun f_3 ef_3 => ?_)
    have ef_3c : f_3 = nI (k + 1) := ef_3.trans (nI_1 k)
    subst ef_3c
    refine va_put (D := (dC, dI)) (ci := 0) (v := .int (nI (k + 1))) (ty := .int) (C := RX0) (T := TX0) (N := 2) hx hb hts (fun w h => List.mem_cons_of_mem _ (List.mem_append_right _ h)) tyX0 tyX0_ok nmX0 hown hK hP hD hS 0 rfl rfl 1 (by decide) (hts (.fieldLink RX0 19 "PolarTypes$Row" "size" "I") (List.mem_of_getElem? (i := 1) (by decide +kernel))) (fun _ h9 => h9) rfl (by decide +kernel) rfl rfl (Nat.le_of_ble_eq_true rfl) dX0_add_48 (fun H locs hP hD hS => ?_)
    have hP : va_P (dC, dI) vwCl [(h0, .inr (0, [.ref q, .int (nI (k + 1))])), (q, .inl (cI, n, .inl g_2))] H := hP
    have hD : va_D A [(h0, .inr (0, [.ref q, .int (nI (k + 1))])), (q, .inl (cI, n, .inl g_2))] := hD
    have hP9 := hP.sub (ws' := [(h0, .inr (0, [.ref q, .int (nI (k + 1))])), (q, .inl (cI, n, .inl g_2))]) [0, 1] rfl
    have hD9 := hD.sub (ws' := [(h0, .inr (0, [.ref q, .int (nI (k + 1))])), (q, .inl (cI, n, .inl g_2))]) [0, 1] (by decide) rfl
    have hw : ([(h0, .inr (0, [.ref q, .int (nI (k + 1))])), (q, .inl (cI, gC k n, .inl g_2))] : va_W) = [(h0, .inr (0, [.ref q, .int (nI (k + 1))])), (q, .inl (cI, n, .inl g_2))] := by rw [gC_p hlt]
    rw [← hw] at hP9 hD9
    refine W.know (fun hG => ?_)
    refine W.widen (k := gA k n) (n := gS k n) (Nat.zero_le _) (Nat.zero_le _) ?_
    exact W.vret hx hb hr (fun t ht hW => ⟨⟨(), rfl, trivial, q, g_2, ⟨fun j hj => by rw [eg_2, nI_clamp (by omega)]; exact (pk_un (Nat.ne_of_lt hj)).trans (rfl), by rw [eg_2, nI_clamp (by omega)]; exact pk_us⟩, by rw [ht]; exact hP9, va_K.moved hW.alike hK, hD9, by rw [ht, hHe]; exact hG.mono (Nat.zero_le _) (Nat.zero_le _)⟩, hS.F ht⟩) hS.2.2 dX0_add_51
  · skip
    have hge : ¬ k < n := fun h9 => c_1 (nI_lt h9 (by omega))
    refine lv_aload_n hx hb dX0_add_12 rfl (lv_at hl 0 rfl) ?_
    refine lv_aload_n hx hb dX0_add_13 rfl (lv_at hl 0 rfl) ?_
    refine va_get (D := (dC, dI)) (ci := 0) (v := .ref q) (C := RX0) (T := TX0) (N := 2) hx hb hts (fun w h => List.mem_cons_of_mem _ (List.mem_append_right _ h)) hown hK hP 0 rfl rfl 0 (by decide) (hts (.fieldLink RX0 9 "PolarTypes$Row" "items" "[I") (List.mem_of_getElem? (i := 2) (by decide +kernel))) (fun _ h9 => h9) rfl dX0_add_14 ?_
    refine lv_iconst (v := 2) hx hb dX0_add_17 (by decide) ?_
    refine lv_aload_n hx hb dX0_add_18 rfl (lv_at hl 0 rfl) ?_
    refine va_get (D := (dC, dI)) (ci := 0) (v := .int (nI k)) (C := RX0) (T := TX0) (N := 2) hx hb hts (fun w h => List.mem_cons_of_mem _ (List.mem_append_right _ h)) hown hK hP 0 rfl rfl 1 (by decide) (hts (.fieldLink RX0 19 "PolarTypes$Row" "size" "I") (List.mem_of_getElem? (i := 1) (by decide +kernel))) (fun _ h9 => h9) rfl dX0_add_19 ?_
    refine lv_imul hx hb dX0_add_22 ?_
    refine lv_topi (fun f_4 ef_4 => ?_)
    have ef_4c : f_4 = nI (2 * k) := ef_4.trans (pk_mul 2 k)
    subst ef_4c
    refine lv_iconst (v := 4) hx hb dX0_add_23 (by decide) ?_
    refine lv_iadd hx hb dX0_add_24 ?_
    refine lv_topi (fun f_5 ef_5 => ?_)
    have ef_5c : f_5 = nI (2 * k + 4) := ef_5.trans (nI_add (2 * k) 4)
    subst ef_5c
    have hPc := hP.sub (ws' := [(q, .inl (cI, n, .inl f))]) [1] rfl
    have hDc := hD.sub (ws' := [(q, .inl (cI, n, .inl f))]) [1] (by decide) rfl
    have hFc := va_free (wc := [(q, .inl (cI, n, .inl f))]) hD hS hA [1] rfl
    refine W.know (fun hG0 => ?_)
    refine va_callr (va_runS (As := [.ref q, .int (nI (2 * k + 4))]) (rest := [.ref h0]) ⟨hx, hb, hml, hown, hts⟩ (c_copyOf l dC dI cI q n (2 * k + 4) f ((by omega)) ((by omega)) H) (va_cwS 2 hts gX0_add_J7_copyOf_59c91 rfl rfl rfl (by decide +kernel) ⟨Nat.le_of_ble_eq_true rfl, Nat.le_of_ble_eq_true rfl⟩) ⟨fun a U g mk q => by obtain ⟨q0, q1, qP, qK, qD⟩ := q; exact ⟨q0, q1, qP, va_K.moved (u := U) (U := U.calling g mk a) (Vm.Alike.refl U.vm) qK, qD⟩, fun U hU hW => ⟨rfl, hU, by rw [hU]; exact hPc, va_K.moved hW.alike hK, hDc.weaken (fun _ _ _ _ => trivial)⟩⟩ rfl rfl hl.1 rfl (lv_room (Nat.le_of_ble_eq_true rfl)) dX0_add_25 ⟨(show 0 + 1 ≤ gA k n from by have := gA_n hge; have := gS_n hge; omega), (show 0 + ((2 * k + 4)) ≤ gS k n from by have := gA_n hge; have := gS_n hge; omega)⟩) hS (fun q _ h => hFc q h) hFc (fun u r_6 t H1 locs ht hvm hw hB hz1 hk1 hS => ?_)
    obtain ⟨y_7, p_8, hP1, hK1, hD1, hG1⟩ := hB
    rw [ht] at hP1 hG1
    refine W.tight (hG0.trans hG1) ?_
    obtain ⟨hP, hD⟩ := va_join (wr := [(h0, .inr (0, [.ref q, .int (nI k)]))]) (w1 := [(q, .inl (cI, n, .inl f)), (r_6, .inl (cI, 2 * k + 4, .inl y_7))]) hP hD [1] [0] rfl rfl (by decide) (by decide) hk1 hFc hP1 hD1
    generalize H1 = H at hP hS ⊢
    have hP : va_P (dC, dI) vwCl [(h0, .inr (0, [.ref q, .int (nI k)])), (q, .inl (cI, n, .inl f)), (r_6, .inl (cI, 2 * k + 4, .inl y_7))] H := hP
    have hD : va_D A [(h0, .inr (0, [.ref q, .int (nI k)])), (q, .inl (cI, n, .inl f)), (r_6, .inl (cI, 2 * k + 4, .inl y_7))] := hD
    refine va_put (D := (dC, dI)) (ci := 0) (v := .ref r_6) (ty := .array .int) (C := RX0) (T := TX0) (N := 2) hx hb hts (fun w h => List.mem_cons_of_mem _ (List.mem_append_right _ h)) tyX0 tyX0_ok nmX0 hown hK hP hD hS 0 rfl rfl 0 (by decide) (hts (.fieldLink RX0 9 "PolarTypes$Row" "items" "[I") (List.mem_of_getElem? (i := 2) (by decide +kernel))) (fun _ h9 => h9) rfl (by decide +kernel) rfl rfl (Nat.le_of_ble_eq_true rfl) dX0_add_28 (fun H locs hP hD hS => ?_)
    have hP : va_P (dC, dI) vwCl [(h0, .inr (0, [.ref r_6, .int (nI k)])), (q, .inl (cI, n, .inl f)), (r_6, .inl (cI, 2 * k + 4, .inl y_7))] H := hP
    have hD : va_D A [(h0, .inr (0, [.ref r_6, .int (nI k)])), (q, .inl (cI, n, .inl f)), (r_6, .inl (cI, 2 * k + 4, .inl y_7))] := hD
    refine lv_aload_n hx hb dX0_add_31 rfl (lv_at hl 0 rfl) ?_
    refine va_get (D := (dC, dI)) (ci := 0) (v := .ref r_6) (C := RX0) (T := TX0) (N := 2) hx hb hts (fun w h => List.mem_cons_of_mem _ (List.mem_append_right _ h)) hown hK hP 0 rfl rfl 0 (by decide) (hts (.fieldLink RX0 9 "PolarTypes$Row" "items" "[I") (List.mem_of_getElem? (i := 2) (by decide +kernel))) (fun _ h9 => h9) rfl dX0_add_32 ?_
    refine lv_aload_n hx hb dX0_add_35 rfl (lv_at hl 0 rfl) ?_
    refine va_get (D := (dC, dI)) (ci := 0) (v := .int (nI k)) (C := RX0) (T := TX0) (N := 2) hx hb hts (fun w h => List.mem_cons_of_mem _ (List.mem_append_right _ h)) hown hK hP 0 rfl rfl 1 (by decide) (hts (.fieldLink RX0 19 "PolarTypes$Row" "size" "I") (List.mem_of_getElem? (i := 1) (by decide +kernel))) (fun _ h9 => h9) rfl dX0_add_36 ?_
    refine lv_iload_n hx hb dX0_add_39 rfl (lv_at hl 1 rfl) ?_
    refine va_iast hx hb hK hP hD hS 2 0 rfl rfl (vp_in_nI (by omega) (by omega)) dX0_add_40 (fun H locs hP hD hS => ?_)
    obtain ⟨g_9, eg_9⟩ : ∃ y : Nat → Int32, y = upd y_7 (Int32.toNatClampNeg (nI k)) x := ⟨_, rfl⟩
    rw [← eg_9] at hP hD
    have hP : va_P (dC, dI) vwCl [(h0, .inr (0, [.ref r_6, .int (nI k)])), (q, .inl (cI, n, .inl f)), (r_6, .inl (cI, 2 * k + 4, .inl g_9))] H := hP
    have hD : va_D A [(h0, .inr (0, [.ref r_6, .int (nI k)])), (q, .inl (cI, n, .inl f)), (r_6, .inl (cI, 2 * k + 4, .inl g_9))] := hD
    refine lv_aload_n hx hb dX0_add_41 rfl (lv_at hl 0 rfl) ?_
    refine lv_dup hx hb dX0_add_42 rfl ?_
    refine va_get (D := (dC, dI)) (ci := 0) (v := .int (nI k)) (C := RX0) (T := TX0) (N := 2) hx hb hts (fun w h => List.mem_cons_of_mem _ (List.mem_append_right _ h)) hown hK hP 0 rfl rfl 1 (by decide) (hts (.fieldLink RX0 19 "PolarTypes$Row" "size" "I") (List.mem_of_getElem? (i := 1) (by decide +kernel))) (fun _ h9 => h9) rfl dX0_add_43 ?_
    refine lv_iconst (v := 1) hx hb dX0_add_46 (by decide) ?_
    refine lv_iadd hx hb dX0_add_47 ?_
    refine lv_topi (fun f_10 ef_10 => ?_)
    have ef_10c : f_10 = nI (k + 1) := ef_10.trans (nI_1 k)
    subst ef_10c
    refine va_put (D := (dC, dI)) (ci := 0) (v := .int (nI (k + 1))) (ty := .int) (C := RX0) (T := TX0) (N := 2) hx hb hts (fun w h => List.mem_cons_of_mem _ (List.mem_append_right _ h)) tyX0 tyX0_ok nmX0 hown hK hP hD hS 0 rfl rfl 1 (by decide) (hts (.fieldLink RX0 19 "PolarTypes$Row" "size" "I") (List.mem_of_getElem? (i := 1) (by decide +kernel))) (fun _ h9 => h9) rfl (by decide +kernel) rfl rfl (Nat.le_of_ble_eq_true rfl) dX0_add_48 (fun H locs hP hD hS => ?_)
    have hP : va_P (dC, dI) vwCl [(h0, .inr (0, [.ref r_6, .int (nI (k + 1))])), (q, .inl (cI, n, .inl f)), (r_6, .inl (cI, 2 * k + 4, .inl g_9))] H := hP
    have hD : va_D A [(h0, .inr (0, [.ref r_6, .int (nI (k + 1))])), (q, .inl (cI, n, .inl f)), (r_6, .inl (cI, 2 * k + 4, .inl g_9))] := hD
    have hP9 := hP.sub (ws' := [(h0, .inr (0, [.ref r_6, .int (nI (k + 1))])), (r_6, .inl (cI, 2 * k + 4, .inl g_9))]) [0, 2] rfl
    have hD9 := hD.sub (ws' := [(h0, .inr (0, [.ref r_6, .int (nI (k + 1))])), (r_6, .inl (cI, 2 * k + 4, .inl g_9))]) [0, 2] (by decide) rfl
    have hw : ([(h0, .inr (0, [.ref r_6, .int (nI (k + 1))])), (r_6, .inl (cI, gC k n, .inl g_9))] : va_W) = [(h0, .inr (0, [.ref r_6, .int (nI (k + 1))])), (r_6, .inl (cI, 2 * k + 4, .inl g_9))] := by rw [gC_n hge]
    rw [← hw] at hP9 hD9
    refine W.know (fun hG => ?_)
    refine W.widen (k := gA k n) (n := gS k n) (show 0 + 1 ≤ gA k n by have := gA_n hge; omega) (show 0 + (2 * k + 4) ≤ gS k n by have := gS_n hge; omega) ?_
    exact W.vret hx hb hr (fun t ht hW => ⟨⟨(), rfl, trivial, r_6, g_9, ⟨fun j hj => by rw [eg_9, nI_clamp (by omega)]; exact (pk_un (Nat.ne_of_lt hj)).trans (p_8 j (Nat.lt_of_lt_of_le hj hk)), by rw [eg_9, nI_clamp (by omega)]; exact pk_us⟩, by rw [ht]; exact hP9, va_K.moved hW.alike hK, hD9, by rw [ht, hHe]; exact hG.mono (by have := gA_n hge; omega) (by have := gS_n hge; omega)⟩, hS.F ht⟩) hS.2.2 dX0_add_51

