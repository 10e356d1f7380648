theorem dX8_labelAt_0 : decode cX8_labelAt 0 = .ok (.iconst 0, 1) := by decide +kernel
theorem dX8_labelAt_1 : decode cX8_labelAt 1 = .ok (.istore_n 3, 1) := by decide +kernel
theorem dX8_labelAt_2 : decode cX8_labelAt 2 = .ok (.iload_n 3, 1) := by decide +kernel
theorem dX8_labelAt_3 : decode cX8_labelAt 3 = .ok (.aload_n 0, 1) := by decide +kernel
theorem dX8_labelAt_4 : decode cX8_labelAt 4 = .ok (.getfield 34, 3) := by decide +kernel
theorem dX8_labelAt_7 : decode cX8_labelAt 7 = .ok (.iload_n 1, 1) := by decide +kernel
theorem dX8_labelAt_8 : decode cX8_labelAt 8 = .ok (.iaload, 1) := by decide +kernel
theorem dX8_labelAt_9 : decode cX8_labelAt 9 = .ok (.if_icmp .ge 26, 3) := by decide +kernel
theorem dX8_labelAt_35 : decode cX8_labelAt 35 = .ok (.bipush (-9), 2) := by decide +kernel
theorem dX8_labelAt_37 : decode cX8_labelAt 37 = .ok (.ireturn, 1) := by decide +kernel
theorem dX8_labelAt_12 : decode cX8_labelAt 12 = .ok (.aload_n 0, 1) := by decide +kernel
theorem dX8_labelAt_13 : decode cX8_labelAt 13 = .ok (.getfield 40, 3) := by decide +kernel
theorem dX8_labelAt_16 : decode cX8_labelAt 16 = .ok (.bipush 6, 2) := by decide +kernel
theorem dX8_labelAt_18 : decode cX8_labelAt 18 = .ok (.iload_n 1, 1) := by decide +kernel
theorem dX8_labelAt_19 : decode cX8_labelAt 19 = .ok (.imul, 1) := by decide +kernel
theorem dX8_labelAt_20 : decode cX8_labelAt 20 = .ok (.iload_n 3, 1) := by decide +kernel
theorem dX8_labelAt_21 : decode cX8_labelAt 21 = .ok (.iadd, 1) := by decide +kernel
theorem dX8_labelAt_22 : decode cX8_labelAt 22 = .ok (.iaload, 1) := by decide +kernel
theorem dX8_labelAt_23 : decode cX8_labelAt 23 = .ok (.iload_n 2, 1) := by decide +kernel
theorem dX8_labelAt_24 : decode cX8_labelAt 24 = .ok (.if_icmp .ne 5, 3) := by decide +kernel
theorem dX8_labelAt_29 : decode cX8_labelAt 29 = .ok (.iinc 3 1, 3) := by decide +kernel
theorem dX8_labelAt_32 : decode cX8_labelAt 32 = .ok (.goto (-30), 3) := by decide +kernel
theorem dX8_labelAt_27 : decode cX8_labelAt 27 = .ok (.iload_n 3, 1) := by decide +kernel
theorem dX8_labelAt_28 : decode cX8_labelAt 28 = .ok (.ireturn, 1) := by decide +kernel
theorem dX8_wasAsked_0 : decode cX8_wasAsked 0 = .ok (.iconst 0, 1) := by decide +kernel
theorem dX8_wasAsked_1 : decode cX8_wasAsked 1 = .ok (.istore_n 3, 1) := by decide +kernel
theorem dX8_wasAsked_2 : decode cX8_wasAsked 2 = .ok (.iload_n 3, 1) := by decide +kernel
theorem dX8_wasAsked_3 : decode cX8_wasAsked 3 = .ok (.aload_n 0, 1) := by decide +kernel
theorem dX8_wasAsked_4 : decode cX8_wasAsked 4 = .ok (.getfield 187, 3) := by decide +kernel
theorem dX8_wasAsked_7 : decode cX8_wasAsked 7 = .ok (.if_icmp .ge 31, 3) := by decide +kernel
theorem dX8_wasAsked_38 : decode cX8_wasAsked 38 = .ok (.iconst 0, 1) := by decide +kernel
theorem dX8_wasAsked_39 : decode cX8_wasAsked 39 = .ok (.ireturn, 1) := by decide +kernel
theorem dX8_wasAsked_10 : decode cX8_wasAsked 10 = .ok (.aload_n 0, 1) := by decide +kernel
theorem dX8_wasAsked_11 : decode cX8_wasAsked 11 = .ok (.getfield 65, 3) := by decide +kernel
theorem dX8_wasAsked_14 : decode cX8_wasAsked 14 = .ok (.iload_n 3, 1) := by decide +kernel
theorem dX8_wasAsked_15 : decode cX8_wasAsked 15 = .ok (.iaload, 1) := by decide +kernel
theorem dX8_wasAsked_16 : decode cX8_wasAsked 16 = .ok (.iload_n 1, 1) := by decide +kernel
theorem dX8_wasAsked_17 : decode cX8_wasAsked 17 = .ok (.if_icmp .ne 15, 3) := by decide +kernel
theorem dX8_wasAsked_32 : decode cX8_wasAsked 32 = .ok (.iinc 3 1, 3) := by decide +kernel
theorem dX8_wasAsked_35 : decode cX8_wasAsked 35 = .ok (.goto (-33), 3) := by decide +kernel
theorem dX8_wasAsked_20 : decode cX8_wasAsked 20 = .ok (.aload_n 0, 1) := by decide +kernel
theorem dX8_wasAsked_21 : decode cX8_wasAsked 21 = .ok (.getfield 68, 3) := by decide +kernel
theorem dX8_wasAsked_24 : decode cX8_wasAsked 24 = .ok (.iload_n 3, 1) := by decide +kernel
theorem dX8_wasAsked_25 : decode cX8_wasAsked 25 = .ok (.iaload, 1) := by decide +kernel
theorem dX8_wasAsked_26 : decode cX8_wasAsked 26 = .ok (.iload_n 2, 1) := by decide +kernel
theorem dX8_wasAsked_27 : decode cX8_wasAsked 27 = .ok (.if_icmp .ne 5, 3) := by decide +kernel
theorem dX8_wasAsked_30 : decode cX8_wasAsked 30 = .ok (.iconst 1, 1) := by decide +kernel
theorem dX8_wasAsked_31 : decode cX8_wasAsked 31 = .ok (.ireturn, 1) := by decide +kernel
set_option maxHeartbeats 4000000 in
set_option maxRecDepth 100000 in
/-- labelAt -/
theorem m_labelAt (l : Launch) (G : mG) (hDD : mDD G) (o : Nat → Int32) (F : Nat → Nat → Int32) (z : aS) (ix : Nat → Nat → Nat) (t : Nat) (x : Nat) (hR : MR z ix o F) (ht : t < nT z) (h2 : srt z t = 2) (hx0 : x < 26) (sz : Nat) : Met l yX8_labelAt wsX8_labelAt { frames := 0, cells := 0, slots := 0, locals := 0 } (mPc G o F sz [.ref (mh G), .int (nI t), .int (nI x)]) (mQi G sz (fun r u => u = (o, F) ∧ ((r = -9 ∧ ∀ i, i < (parts z t).length → (labs z t).getD i 0 ≠ x) ∨ ∃ i, i < (parts z t).length ∧ r = nI i ∧ (labs z t).getD i 0 = x ∧ ∀ j, j < i → (labs z t).getD j 0 ≠ x))) 0 0 (mA G sz) := by
  refine Met.ofW (cc := cX8_labelAt) (maxL := 4) (ret := (some .int)) (by decide) rfl ?_
  intro p e s m args below meth c s₁ B hml hv
  obtain ⟨rfl, hsz, hP, hK⟩ := hv
  have hx := B.exec
  have hb := B.bytes
  have hr := B.returns
  have hts := atoms_spec (ws := wsX8_labelAt) B.pre
  have hown : s.vm.findClass RX8 = some m.cls := findClass_of_methodNamed B.named
  have hlocks := B.notSynchronized
  subst hsz
  have hS : va_S (mA G s.heap.size) s.heap s.heap [] := va_S.rf
  have hl := lv_entry ([.ref (mh G), .int (nI t), .int (nI x)]) (n := 4) (Nat.le_of_ble_eq_true rfl)
  rw [lg_entry_eq]
  generalize (lg_sl ([.ref (mh G), .int (nI t), .int (nI x)]) ++ List.replicate (4 - (lg_sl ([.ref (mh G), .int (nI t), .int (nI x)])).length) Slot.unset).toArray = ls at hl ⊢
  have hl : lv_has ls 4 [(0, .ref (mh G)), (1, .int (nI t)), (2, .int (nI x))] := hl
  obtain ⟨H, hHe⟩ : ∃ H : Heap, H = s.heap := ⟨_, rfl⟩
  rw [← hHe] at hP
  have hS : va_S (mA G s.heap.size) s.heap H [] := by rw [hHe]; exact va_S.rf
  refine W.heq hHe ?_
  obtain ⟨b1, b2, b3, b4, b5, b6, b7, b8⟩ := hR.2.1
  obtain ⟨r1, r2, r3, r4⟩ := hR.2.2.2.2.1 t ht h2
  refine lv_iconst (v := 0) hx hb dX8_labelAt_0 (by decide) ?_
  refine lv_istore_n (lv' := [(3, .int 0), (0, .ref (mh G)), (1, .int (nI t)), (2, .int (nI x))]) hx hb dX8_labelAt_1 rfl hl (by decide) rfl (fun ls hl => ?_)
  refine w_loop (fun j H locs k sl g => ∃ (i : Nat) (ls : Array Slot), i + j = (parts z t).length ∧ (∀ q, q < i → (labs z t).getD q 0 ≠ x) ∧ k = 0 ∧ sl = 0 ∧ mP G o F H ∧ va_S (mA G s.heap.size) s.heap H locs ∧ lv_has ls 4 [(3, .int (nI i)), (0, .ref (mh G)), (1, .int (nI t)), (2, .int (nI x))] ∧ g = F0 m 2 ls []) ?_ ?_ ((parts z t).length) _ _ _ _ _ ⟨0, ls, by omega, fun q hq => absurd hq (by omega), rfl, rfl, hP, hS, lv_sub hl [0, 1, 2, 3] rfl, rfl⟩
  · intro H locs k sl g hI
    obtain ⟨i, ls, hp0, hp1, rfl, rfl, hP, hS, hl, rfl⟩ := hI
    refine lv_iload_n hx hb dX8_labelAt_2 rfl (lv_at hl 0 rfl) ?_
    refine lv_aload_n hx hb dX8_labelAt_3 rfl (lv_at hl 1 rfl) ?_
    refine m_get (v := .ref (md G 10)) hx hb hts (fun w h => List.mem_cons_of_mem _ (List.mem_append_right _ h)) hown hK hP 10 (by decide) (hts (.fieldLink RX8 34 "PolarTypesModel" "one" "[I") (List.mem_of_getElem? (i := 1) (by decide +kernel))) rfl rfl dX8_labelAt_4 ?_
    refine lv_iload_n hx hb dX8_labelAt_7 rfl (lv_at hl 2 rfl) ?_
    refine m_ald (j := t) (v := nI ((parts z t).length)) hx hb hK hP 9 10 rfl (by omega) (by decide) r1 dX8_labelAt_8 ?_
    refine lv_icmp_ge (tgt := 35) hx hb dX8_labelAt_9 (by decide) (fun c_1 => ?_) (fun c_1 => absurd (nI_le (by omega) (by omega)) c_1)
    refine lv_bipush (v := (-9)) hx hb dX8_labelAt_35 (by decide) ?_
    exact m_iret (v := (-9)) hx hb hr hK hP hS ⟨rfl, Or.inl ⟨rfl, fun i hi => hp1 i (by omega)⟩⟩ dX8_labelAt_37 hlocks
  · intro j ih9 H locs k sl g hI
    obtain ⟨i, ls, hp0, hp1, rfl, rfl, hP, hS, hl, rfl⟩ := hI
    have ni : i < (parts z t).length := by omega
    have l26 := (r4 i ni).2.2.2
    refine lv_iload_n hx hb dX8_labelAt_2 rfl (lv_at hl 0 rfl) ?_
    refine lv_aload_n hx hb dX8_labelAt_3 rfl (lv_at hl 1 rfl) ?_
    refine m_get (v := .ref (md G 10)) hx hb hts (fun w h => List.mem_cons_of_mem _ (List.mem_append_right _ h)) hown hK hP 10 (by decide) (hts (.fieldLink RX8 34 "PolarTypesModel" "one" "[I") (List.mem_of_getElem? (i := 1) (by decide +kernel))) rfl rfl dX8_labelAt_4 ?_
    refine lv_iload_n hx hb dX8_labelAt_7 rfl (lv_at hl 2 rfl) ?_
    refine m_ald (j := t) (v := nI ((parts z t).length)) hx hb hK hP 9 10 rfl (by omega) (by decide) r1 dX8_labelAt_8 ?_
    refine lv_icmp_ge (tgt := 35) hx hb dX8_labelAt_9 (by decide) (fun c_2 => absurd c_2 (nI_ge ni (by omega))) (fun c_2 => ?_)
    refine lv_aload_n hx hb dX8_labelAt_12 rfl (lv_at hl 1 rfl) ?_
    refine m_get (v := .ref (md G 12)) hx hb hts (fun w h => List.mem_cons_of_mem _ (List.mem_append_right _ h)) hown hK hP 12 (by decide) (hts (.fieldLink RX8 40 "PolarTypesModel" "rowLabel" "[I") (List.mem_of_getElem? (i := 2) (by decide +kernel))) rfl rfl dX8_labelAt_13 ?_
    refine lv_bipush (v := 6) hx hb dX8_labelAt_16 (by decide) ?_
    refine lv_iload_n hx hb dX8_labelAt_18 rfl (lv_at hl 2 rfl) ?_
    refine lv_imul hx hb dX8_labelAt_19 ?_
    refine m_top (y := nI (6 * t)) (pk_mul 6 t) ?_
    refine lv_iload_n hx hb dX8_labelAt_20 rfl (lv_at hl 0 rfl) ?_
    refine lv_iadd hx hb dX8_labelAt_21 ?_
    refine m_top (y := nI (6 * t + i)) (nI_add (6 * t) i) ?_
    refine m_ald (j := 6 * t + i) (v := nI ((labs z t).getD i 0)) hx hb hK hP 11 12 rfl (by omega) (by decide) (r4 i ni).1 dX8_labelAt_22 ?_
    refine lv_iload_n hx hb dX8_labelAt_23 rfl (lv_at hl 3 rfl) ?_
    refine lv_icmp_ne (tgt := 29) hx hb dX8_labelAt_24 (by decide) (fun c_3 => ?_) (fun c_3 => ?_)
    · skip
      have nc_3 : ¬ (labs z t).getD i 0 = x := fun h9 => c_3 ((nI_eq (a := (labs z t).getD i 0) (b := x) (by omega) (by omega)).mpr h9)
      refine lv_iinc (v := nI (i + 1)) (lv' := [(3, .int (nI (i + 1))), (0, .ref (mh G)), (1, .int (nI t)), (2, .int (nI x))]) hx hb dX8_labelAt_29 hl (k := 0) rfl (nI_1 i) (by decide) rfl (fun ls hl => ?_)
      refine lv_goto (tgt := 2) hx hb dX8_labelAt_32 (by decide) ?_
      exact ih9 _ _ _ _ _ ⟨i + 1, ls, by omega, fun q hq => by rcases Nat.lt_or_ge q i with h9 | h9; exact hp1 q h9; rw [show q = i by omega]; exact nc_3, rfl, rfl, hP, hS, lv_sub hl [0, 1, 2, 3] rfl, rfl⟩
    · skip
      have nc_3 : (labs z t).getD i 0 = x := (nI_eq (a := (labs z t).getD i 0) (b := x) (by omega) (by omega)).mp c_3
      refine lv_iload_n hx hb dX8_labelAt_27 rfl (lv_at hl 0 rfl) ?_
      exact m_iret (v := nI i) hx hb hr hK hP hS ⟨rfl, Or.inr ⟨i, ni, rfl, nc_3, fun j hj => hp1 j hj⟩⟩ dX8_labelAt_28 hlocks

set_option maxHeartbeats 4000000 in
set_option maxRecDepth 100000 in
/-- wasAsked -/
theorem m_wasAsked (l : Launch) (G : mG) (hDD : mDD G) (o : Nat → Int32) (F : Nat → Nat → Int32) (z : aS) (ix : Nat → Nat → Nat) (a : Nat) (b : Nat) (hR : MR z ix o F) (ha : a < nT z) (hb0 : b < nT z) (sz : Nat) : Met l yX8_wasAsked wsX8_wasAsked { frames := 0, cells := 0, slots := 0, locals := 0 } (mPc G o F sz [.ref (mh G), .int (nI a), .int (nI b)]) (mQi G sz (fun r u => u = (o, F) ∧ ((r = 1 ∧ (a, b) ∈ z.2.2) ∨ (r = 0 ∧ (a, b) ∉ z.2.2)))) 0 0 (mA G sz) := by
  refine Met.ofW (cc := cX8_wasAsked) (maxL := 4) (ret := (some .boolean)) (by decide) rfl ?_
  intro p e s m args below meth c s₁ B hml hv
  obtain ⟨rfl, hsz, hP, hK⟩ := hv
  have hx := B.exec
  have hb := B.bytes
  have hr := B.returns
  have hts := atoms_spec (ws := wsX8_wasAsked) B.pre
  have hown : s.vm.findClass RX8 = some m.cls := findClass_of_methodNamed B.named
  have hlocks := B.notSynchronized
  subst hsz
  have hS : va_S (mA G s.heap.size) s.heap s.heap [] := va_S.rf
  have hl := lv_entry ([.ref (mh G), .int (nI a), .int (nI b)]) (n := 4) (Nat.le_of_ble_eq_true rfl)
  rw [lg_entry_eq]
  generalize (lg_sl ([.ref (mh G), .int (nI a), .int (nI b)]) ++ List.replicate (4 - (lg_sl ([.ref (mh G), .int (nI a), .int (nI b)])).length) Slot.unset).toArray = ls at hl ⊢
  have hl : lv_has ls 4 [(0, .ref (mh G)), (1, .int (nI a)), (2, .int (nI b))] := hl
  obtain ⟨H, hHe⟩ : ∃ H : Heap, H = s.heap := ⟨_, rfl⟩
  rw [← hHe] at hP
  have hS : va_S (mA G s.heap.size) s.heap H [] := by rw [hHe]; exact va_S.rf
  refine W.heq hHe ?_
  obtain ⟨b1, b2, b3, b4, b5, b6, b7, b8⟩ := hR.2.1
  have hq := hR.2.2.2.2.2.2.2.2
  refine lv_iconst (v := 0) hx hb dX8_wasAsked_0 (by decide) ?_
  refine lv_istore_n (lv' := [(3, .int 0), (0, .ref (mh G)), (1, .int (nI a)), (2, .int (nI b))]) hx hb dX8_wasAsked_1 rfl hl (by decide) rfl (fun ls hl => ?_)
  refine w_loop (fun j H locs k sl g => ∃ (i : Nat) (ls : Array Slot), i + j = z.2.2.length ∧ (∀ q, q < i → ¬ (F 29 q = nI a ∧ F 30 q = nI b)) ∧ k = 0 ∧ sl = 0 ∧ mP G o F H ∧ va_S (mA G s.heap.size) s.heap H locs ∧ lv_has ls 4 [(3, .int (nI i)), (0, .ref (mh G)), (1, .int (nI a)), (2, .int (nI b))] ∧ g = F0 m 2 ls []) ?_ ?_ z.2.2.length _ _ _ _ _ ⟨0, ls, by omega, fun q hq => absurd hq (by omega), rfl, rfl, hP, hS, lv_sub hl [0, 1, 2, 3] rfl, rfl⟩
  · intro H locs k sl g hI
    obtain ⟨i, ls, hp0, hp1, rfl, rfl, hP, hS, hl, rfl⟩ := hI
    refine lv_iload_n hx hb dX8_wasAsked_2 rfl (lv_at hl 0 rfl) ?_
    refine lv_aload_n hx hb dX8_wasAsked_3 rfl (lv_at hl 1 rfl) ?_
    refine m_get (v := .int (nI (z.2.2.length))) hx hb hts (fun w h => List.mem_cons_of_mem _ (List.mem_append_right _ h)) hown hK hP 28 (by decide) (hts (.fieldLink RX8 187 "PolarTypesModel" "askedMany" "I") (List.mem_of_getElem? (i := 1) (by decide +kernel))) rfl (m_v hR.1.2.2.2.2.2.2.2) dX8_wasAsked_4 ?_
    refine lv_icmp_ge (tgt := 38) hx hb dX8_wasAsked_7 (by decide) (fun c_1 => ?_) (fun c_1 => absurd (nI_le (by omega) (by omega)) c_1)
    refine lv_iconst (v := 0) hx hb dX8_wasAsked_38 (by decide) ?_
    exact m_zret (v := 0) hx hb hr hK hP hS rfl ⟨rfl, Or.inr ⟨rfl, fun hm => by obtain ⟨i2, hi2, e1, e2⟩ := (hq.mem b1 ha hb0).mp hm; exact hp1 i2 (by omega) ⟨e1, e2⟩⟩⟩ dX8_wasAsked_39 hlocks
  · intro j ih9 H locs k sl g hI
    obtain ⟨i, ls, hp0, hp1, rfl, rfl, hP, hS, hl, rfl⟩ := hI
    have ni : i < z.2.2.length := by omega
    refine lv_iload_n hx hb dX8_wasAsked_2 rfl (lv_at hl 0 rfl) ?_
    refine lv_aload_n hx hb dX8_wasAsked_3 rfl (lv_at hl 1 rfl) ?_
    refine m_get (v := .int (nI (z.2.2.length))) hx hb hts (fun w h => List.mem_cons_of_mem _ (List.mem_append_right _ h)) hown hK hP 28 (by decide) (hts (.fieldLink RX8 187 "PolarTypesModel" "askedMany" "I") (List.mem_of_getElem? (i := 1) (by decide +kernel))) rfl (m_v hR.1.2.2.2.2.2.2.2) dX8_wasAsked_4 ?_
    refine lv_icmp_ge (tgt := 38) hx hb dX8_wasAsked_7 (by decide) (fun c_2 => absurd c_2 (nI_ge ni (by omega))) (fun c_2 => ?_)
    refine lv_aload_n hx hb dX8_wasAsked_10 rfl (lv_at hl 1 rfl) ?_
    refine m_get (v := .ref (md G 29)) hx hb hts (fun w h => List.mem_cons_of_mem _ (List.mem_append_right _ h)) hown hK hP 29 (by decide) (hts (.fieldLink RX8 65 "PolarTypesModel" "askedA" "[I") (List.mem_of_getElem? (i := 2) (by decide +kernel))) rfl rfl dX8_wasAsked_11 ?_
    refine lv_iload_n hx hb dX8_wasAsked_14 rfl (lv_at hl 0 rfl) ?_
    refine m_ald (j := i) (v := F 29 i) hx hb hK hP 19 29 rfl (by omega) (by decide) rfl dX8_wasAsked_15 ?_
    refine lv_iload_n hx hb dX8_wasAsked_16 rfl (lv_at hl 2 rfl) ?_
    refine lv_icmp_ne (tgt := 32) hx hb dX8_wasAsked_17 (by decide) (fun c_3 => ?_) (fun c_3 => ?_)
    · skip
      refine lv_iinc (v := nI (i + 1)) (lv' := [(3, .int (nI (i + 1))), (0, .ref (mh G)), (1, .int (nI a)), (2, .int (nI b))]) hx hb dX8_wasAsked_32 hl (k := 0) rfl (nI_1 i) (by decide) rfl (fun ls hl => ?_)
      refine lv_goto (tgt := 2) hx hb dX8_wasAsked_35 (by decide) ?_
      exact ih9 _ _ _ _ _ ⟨i + 1, ls, by omega, fun q hq2 => by rcases Nat.lt_or_ge q i with h9 | h9; exact hp1 q h9; rw [show q = i by omega]; exact fun h9 => c_3 h9.1, rfl, rfl, hP, hS, lv_sub hl [0, 1, 2, 3] rfl, rfl⟩
    · skip
      refine lv_aload_n hx hb dX8_wasAsked_20 rfl (lv_at hl 1 rfl) ?_
      refine m_get (v := .ref (md G 30)) hx hb hts (fun w h => List.mem_cons_of_mem _ (List.mem_append_right _ h)) hown hK hP 30 (by decide) (hts (.fieldLink RX8 68 "PolarTypesModel" "askedB" "[I") (List.mem_of_getElem? (i := 3) (by decide +kernel))) rfl rfl dX8_wasAsked_21 ?_
      refine lv_iload_n hx hb dX8_wasAsked_24 rfl (lv_at hl 0 rfl) ?_
      refine m_ald (j := i) (v := F 30 i) hx hb hK hP 20 30 rfl (by omega) (by decide) rfl dX8_wasAsked_25 ?_
      refine lv_iload_n hx hb dX8_wasAsked_26 rfl (lv_at hl 3 rfl) ?_
      refine lv_icmp_ne (tgt := 32) hx hb dX8_wasAsked_27 (by decide) (fun c_4 => ?_) (fun c_4 => ?_)
      · skip
        refine lv_iinc (v := nI (i + 1)) (lv' := [(3, .int (nI (i + 1))), (0, .ref (mh G)), (1, .int (nI a)), (2, .int (nI b))]) hx hb dX8_wasAsked_32 hl (k := 0) rfl (nI_1 i) (by decide) rfl (fun ls hl => ?_)
        refine lv_goto (tgt := 2) hx hb dX8_wasAsked_35 (by decide) ?_
        exact ih9 _ _ _ _ _ ⟨i + 1, ls, by omega, fun q hq2 => by rcases Nat.lt_or_ge q i with h9 | h9; exact hp1 q h9; rw [show q = i by omega]; exact fun h9 => c_4 h9.2, rfl, rfl, hP, hS, lv_sub hl [0, 1, 2, 3] rfl, rfl⟩
      · skip
        refine lv_iconst (v := 1) hx hb dX8_wasAsked_30 (by decide) ?_
        exact m_zret (v := 1) hx hb hr hK hP hS rfl ⟨rfl, Or.inl ⟨rfl, (hq.mem b1 ha hb0).mpr ⟨i, ni, c_3, c_4⟩⟩⟩ dX8_wasAsked_31 hlocks

