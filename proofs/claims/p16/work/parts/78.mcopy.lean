theorem dX8_labelAt_0 : decode cX8_labelAt 0 = .ok (.iconst 0, 1) := by decide +kernel
theorem dX8_labelAt_1 : decode cX8_labelAt 1 = .ok (.istore_n 3, 1) := by decide +kernel
theorem dX8_labelAt_2 : decode cX8_labelAt 2 = .ok (.iload_n 3, 1) := by decide +kernel
theorem dX8_labelAt_3 : decode cX8_labelAt 3 = .ok (.aload_n 0, 1) := by decide +kernel
theorem dX8_labelAt_4 : decode cX8_labelAt 4 = .ok (.getfield 34, 3) := by decide +kernel
theorem dX8_labelAt_7 : decode cX8_labelAt 7 = .ok (.iload_n 1, 1) := by decide +kernel
theorem dX8_labelAt_8 : decode cX8_labelAt 8 = .ok (.iaload, 1) := by decide +kernel
theorem dX8_labelAt_9 : decode cX8_labelAt 9 = .ok (.if_icmp .ge 26, 3) := by decide +kernel
theorem dX8_labelAt_35 : decode cX8_labelAt 35 = .ok (.bipush (-9), 2) := by decide +kernel
theorem dX8_labelAt_37 : decode cX8_labelAt 37 = .ok (.ireturn, 1) := by decide +kernel
theorem dX8_labelAt_12 : decode cX8_labelAt 12 = .ok (.aload_n 0, 1) := by decide +kernel
theorem dX8_labelAt_13 : decode cX8_labelAt 13 = .ok (.getfield 40, 3) := by decide +kernel
theorem dX8_labelAt_16 : decode cX8_labelAt 16 = .ok (.bipush 6, 2) := by decide +kernel
theorem dX8_labelAt_18 : decode cX8_labelAt 18 = .ok (.iload_n 1, 1) := by decide +kernel
theorem dX8_labelAt_19 : decode cX8_labelAt 19 = .ok (.imul, 1) := by decide +kernel
theorem dX8_labelAt_20 : decode cX8_labelAt 20 = .ok (.iload_n 3, 1) := by decide +kernel
theorem dX8_labelAt_21 : decode cX8_labelAt 21 = .ok (.iadd, 1) := by decide +kernel
theorem dX8_labelAt_22 : decode cX8_labelAt 22 = .ok (.iaload, 1) := by decide +kernel
theorem dX8_labelAt_23 : decode cX8_labelAt 23 = .ok (.iload_n 2, 1) := by decide +kernel
theorem dX8_labelAt_24 : decode cX8_labelAt 24 = .ok (.if_icmp .ne 5, 3) := by decide +kernel
theorem dX8_labelAt_29 : decode cX8_labelAt 29 = .ok (.iinc 3 1, 3) := by decide +kernel
theorem dX8_labelAt_32 : decode cX8_labelAt 32 = .ok (.goto (-30), 3) := by decide +kernel
theorem dX8_labelAt_27 : decode cX8_labelAt 27 = .ok (.iload_n 3, 1) := by decide +kernel
theorem dX8_labelAt_28 : decode cX8_labelAt 28 = .ok (.ireturn, 1) := by decide +kernel
theorem dX8_wasAsked_0 : decode cX8_wasAsked 0 = .ok (.iconst 0, 1) := by decide +kernel
theorem dX8_wasAsked_1 : decode cX8_wasAsked 1 = .ok (.istore_n 3, 1) := by decide +kernel
theorem dX8_wasAsked_2 : decode cX8_wasAsked 2 = .ok (.iload_n 3, 1) := by decide +kernel
theorem dX8_wasAsked_3 : decode cX8_wasAsked 3 = .ok (.aload_n 0, 1) := by decide +kernel
theorem dX8_wasAsked_4 : decode cX8_wasAsked 4 = .ok (.getfield 187, 3) := by decide +kernel
theorem dX8_wasAsked_7 : decode cX8_wasAsked 7 = .ok (.if_icmp .ge 31, 3) := by decide +kernel
theorem dX8_wasAsked_38 : decode cX8_wasAsked 38 = .ok (.iconst 0, 1) := by decide +kernel
theorem dX8_wasAsked_39 : decode cX8_wasAsked 39 = .ok (.ireturn, 1) := by decide +kernel
theorem dX8_wasAsked_10 : decode cX8_wasAsked 10 = .ok (.aload_n 0, 1) := by decide +kernel
theorem dX8_wasAsked_11 : decode cX8_wasAsked 11 = .ok (.getfield 65, 3) := by decide +kernel
theorem dX8_wasAsked_14 : decode cX8_wasAsked 14 = .ok (.iload_n 3, 1) := by decide +kernel
theorem dX8_wasAsked_15 : decode cX8_wasAsked 15 = .ok (.iaload, 1) := by decide +kernel
theorem dX8_wasAsked_16 : decode cX8_wasAsked 16 = .ok (.iload_n 1, 1) := by decide +kernel
theorem dX8_wasAsked_17 : decode cX8_wasAsked 17 = .ok (.if_icmp .ne 15, 3) := by decide +kernel
theorem dX8_wasAsked_32 : decode cX8_wasAsked 32 = .ok (.iinc 3 1, 3) := by decide +kernel
theorem dX8_wasAsked_35 : decode cX8_wasAsked 35 = .ok (.goto (-33), 3) := by decide +kernel
theorem dX8_wasAsked_20 : decode cX8_wasAsked 20 = .ok (.aload_n 0, 1) := by decide +kernel
theorem dX8_wasAsked_21 : decode cX8_wasAsked 21 = .ok (.getfield 68, 3) := by decide +kernel
theorem dX8_wasAsked_24 : decode cX8_wasAsked 24 = .ok (.iload_n 3, 1) := by decide +kernel
theorem dX8_wasAsked_25 : decode cX8_wasAsked 25 = .ok (.iaload, 1) := by decide +kernel
theorem dX8_wasAsked_26 : decode cX8_wasAsked 26 = .ok (.iload_n 2, 1) := by decide +kernel
theorem dX8_wasAsked_27 : decode cX8_wasAsked 27 = .ok (.if_icmp .ne 5, 3) := by decide +kernel
theorem dX8_wasAsked_30 : decode cX8_wasAsked 30 = .ok (.iconst 1, 1) := by decide +kernel
theorem dX8_wasAsked_31 : decode cX8_wasAsked 31 = .ok (.ireturn, 1) := by decide +kernel
theorem dX8_lift_0 : decode cX8_lift 0 = .ok (.aload_n 0, 1) := by decide +kernel
theorem dX8_lift_1 : decode cX8_lift 1 = .ok (.getfield 184, 3) := by decide +kernel
theorem dX8_lift_4 : decode cX8_lift 4 = .ok (.ifCond .eq 6, 3) := by decide +kernel
theorem dX8_lift_10 : decode cX8_lift 10 = .ok (.aload_n 0, 1) := by decide +kernel
theorem dX8_lift_11 : decode cX8_lift 11 = .ok (.getfield 193, 3) := by decide +kernel
theorem dX8_lift_14 : decode cX8_lift 14 = .ok (.bipush 60, 2) := by decide +kernel
theorem dX8_lift_16 : decode cX8_lift 16 = .ok (.if_icmp .ne 16, 3) := by decide +kernel
theorem dX8_lift_19 : decode cX8_lift 19 = .ok (.aload_n 0, 1) := by decide +kernel
theorem dX8_lift_20 : decode cX8_lift 20 = .ok (.bipush (-6), 2) := by decide +kernel
theorem dX8_lift_22 : decode cX8_lift 22 = .ok (.aload_n 0, 1) := by decide +kernel
theorem dX8_lift_23 : decode cX8_lift 23 = .ok (.getfield 202, 3) := by decide +kernel
theorem dX8_lift_26 : decode cX8_lift 26 = .ok (.invokevirtual 205, 3) := by decide +kernel
theorem dX8_lift_29 : decode cX8_lift 29 = .ok (.bipush (-9), 2) := by decide +kernel
theorem dX8_lift_31 : decode cX8_lift 31 = .ok (.ireturn, 1) := by decide +kernel
theorem dX8_lift_7 : decode cX8_lift 7 = .ok (.bipush (-9), 2) := by decide +kernel
theorem dX8_lift_9 : decode cX8_lift 9 = .ok (.ireturn, 1) := by decide +kernel
theorem dX8_lift_32 : decode cX8_lift 32 = .ok (.aload_n 0, 1) := by decide +kernel
theorem dX8_lift_33 : decode cX8_lift 33 = .ok (.dup, 1) := by decide +kernel
theorem dX8_lift_34 : decode cX8_lift 34 = .ok (.getfield 193, 3) := by decide +kernel
theorem dX8_lift_37 : decode cX8_lift 37 = .ok (.iconst 1, 1) := by decide +kernel
theorem dX8_lift_38 : decode cX8_lift 38 = .ok (.iadd, 1) := by decide +kernel
theorem dX8_lift_39 : decode cX8_lift 39 = .ok (.putfield 193, 3) := by decide +kernel
theorem dX8_lift_42 : decode cX8_lift 42 = .ok (.aload_n 0, 1) := by decide +kernel
theorem dX8_lift_43 : decode cX8_lift 43 = .ok (.iload_n 1, 1) := by decide +kernel
theorem dX8_lift_44 : decode cX8_lift 44 = .ok (.iload_n 2, 1) := by decide +kernel
theorem dX8_lift_45 : decode cX8_lift 45 = .ok (.iload_n 3, 1) := by decide +kernel
theorem dX8_lift_46 : decode cX8_lift 46 = .ok (.iload 4, 2) := by decide +kernel
theorem dX8_lift_48 : decode cX8_lift 48 = .ok (.invokevirtual 239, 3) := by decide +kernel
theorem dX8_lift_51 : decode cX8_lift 51 = .ok (.istore 5, 2) := by decide +kernel
theorem dX8_lift_53 : decode cX8_lift 53 = .ok (.aload_n 0, 1) := by decide +kernel
theorem dX8_lift_54 : decode cX8_lift 54 = .ok (.dup, 1) := by decide +kernel
theorem dX8_lift_55 : decode cX8_lift 55 = .ok (.getfield 193, 3) := by decide +kernel
theorem dX8_lift_58 : decode cX8_lift 58 = .ok (.iconst 1, 1) := by decide +kernel
theorem dX8_lift_59 : decode cX8_lift 59 = .ok (.isub, 1) := by decide +kernel
theorem dX8_lift_60 : decode cX8_lift 60 = .ok (.putfield 193, 3) := by decide +kernel
theorem dX8_lift_63 : decode cX8_lift 63 = .ok (.aload_n 0, 1) := by decide +kernel
theorem dX8_lift_64 : decode cX8_lift 64 = .ok (.getfield 184, 3) := by decide +kernel
theorem dX8_lift_67 : decode cX8_lift 67 = .ok (.ifCond .eq 8, 3) := by decide +kernel
theorem dX8_lift_75 : decode cX8_lift 75 = .ok (.iload 5, 2) := by decide +kernel
theorem dX8_lift_77 : decode cX8_lift 77 = .ok (.ireturn, 1) := by decide +kernel
theorem dX8_lift_70 : decode cX8_lift 70 = .ok (.bipush (-9), 2) := by decide +kernel
theorem dX8_lift_72 : decode cX8_lift 72 = .ok (.goto 5, 3) := by decide +kernel
set_option maxHeartbeats 4000000 in
set_option maxRecDepth 100000 in
/-- labelAt -/
theorem m_labelAt (l : Launch) (G : mG) (hDD : mDD G) (o : Nat → Int32) (F : Nat → Nat → Int32) (z : aS) (ix : Nat → Nat → Nat) (t : Nat) (x : Nat) (hR : MR z ix o F) (ht : t < nT z) (h2 : srt z t = 2) (hx0 : x < 26) (sz : Nat) : Met l yX8_labelAt (wU yX8_labelAt cX8_labelAt 4 (some .int)) { frames := 0, cells := 0, slots := 0, locals := 0 } (mPc G o F sz [.ref (mh G), .int (nI t), .int (nI x)]) (mQi G sz (fun r u => u = (o, F) ∧ ((r = -9 ∧ ∀ i, i < (parts z t).length → (labs z t).getD i 0 ≠ x) ∨ ∃ i, i < (parts z t).length ∧ r = nI i ∧ (labs z t).getD i 0 = x ∧ ∀ j, j < i → (labs z t).getD j 0 ≠ x))) 0 0 (mA G sz) := by
  refine Met.ofW (cc := cX8_labelAt) (maxL := 4) (ret := (some .int)) (by decide) rfl ?_
  intro p e s m args below meth c s₁ B hml hv
  obtain ⟨rfl, hsz, hP, hK⟩ := hv
  have hx := B.exec
  have hb := B.bytes
  have hr := B.returns
  have htu : ∀ w ∈ WU, w.before _ s = true := fun w h => atoms_spec (ws := (wU yX8_labelAt cX8_labelAt 4 (some .int))) B.pre w (List.mem_cons_of_mem _ h)
  have hown : s.vm.findClass RX8 = some m.cls := findClass_of_methodNamed B.named
  have hlocks := B.notSynchronized
  subst hsz
  have hS : va_S (mA G s.heap.size) s.heap s.heap [] := va_S.rf
  have hl := lv_entry ([.ref (mh G), .int (nI t), .int (nI x)]) (n := 4) (Nat.le_of_ble_eq_true rfl)
  rw [lg_entry_eq]
  generalize (lg_sl ([.ref (mh G), .int (nI t), .int (nI x)]) ++ List.replicate (4 - (lg_sl ([.ref (mh G), .int (nI t), .int (nI x)])).length) Slot.unset).toArray = ls at hl ⊢
  have hl : lv_has ls 4 [(0, .ref (mh G)), (1, .int (nI t)), (2, .int (nI x))] := hl
  obtain ⟨H, hHe⟩ : ∃ H : Heap, H = s.heap := ⟨_, rfl⟩
  rw [← hHe] at hP
  have hS : va_S (mA G s.heap.size) s.heap H [] := by rw [hHe]; exact va_S.rf
  refine W.heq hHe ?_
  obtain ⟨b1, b2, b3, b4, b5, b6, b7, b8⟩ := hR.2.1
  obtain ⟨r1, r2, r3, r4⟩ := hR.2.2.2.2.1 t ht h2
  refine lv_iconst (v := 0) hx hb dX8_labelAt_0 (by decide) ?_
  refine lv_istore_n (lv' := [(3, .int 0), (0, .ref (mh G)), (1, .int (nI t)), (2, .int (nI x))]) hx hb dX8_labelAt_1 rfl hl (by decide) rfl (fun ls hl => ?_)
  refine w_loop (fun j H locs k sl g => ∃ (i : Nat) (ls : Array Slot), i + j = (parts z t).length ∧ (∀ q, q < i → (labs z t).getD q 0 ≠ x) ∧ k = 0 ∧ sl = 0 ∧ mP G o F H ∧ va_S (mA G s.heap.size) s.heap H locs ∧ lv_has ls 4 [(3, .int (nI i)), (0, .ref (mh G)), (1, .int (nI t)), (2, .int (nI x))] ∧ g = F0 m 2 ls []) ?_ ?_ ((parts z t).length) _ _ _ _ _ ⟨0, ls, by omega, fun q hq => absurd hq (by omega), rfl, rfl, hP, hS, lv_sub hl [0, 1, 2, 3] rfl, rfl⟩
  · intro H locs k sl g hI
    obtain ⟨i, ls, hp0, hp1, rfl, rfl, hP, hS, hl, rfl⟩ := hI
    refine lv_iload_n hx hb dX8_labelAt_2 rfl (lv_at hl 0 rfl) ?_
    refine lv_aload_n hx hb dX8_labelAt_3 rfl (lv_at hl 1 rfl) ?_
    refine m_get (v := .ref (md G 10)) hx hb htu wu_in hown hK hP 10 (by decide) (htu _ U_80) rfl rfl dX8_labelAt_4 ?_
    refine lv_iload_n hx hb dX8_labelAt_7 rfl (lv_at hl 2 rfl) ?_
    refine m_ald (j := t) (v := nI ((parts z t).length)) hx hb hK hP 9 10 rfl (by omega) (by decide) r1 dX8_labelAt_8 ?_
    refine lv_icmp_ge (tgt := 35) hx hb dX8_labelAt_9 (by decide) (fun c_1 => ?_) (fun c_1 => absurd (nI_le (by omega) (by omega)) c_1)
    refine lv_bipush (v := (-9)) hx hb dX8_labelAt_35 (by decide) ?_
    exact m_iret (v := (-9)) hx hb hr hK hP hS ⟨rfl, Or.inl ⟨rfl, fun i hi => hp1 i (by omega)⟩⟩ dX8_labelAt_37 hlocks
  · intro j ih9 H locs k sl g hI
    obtain ⟨i, ls, hp0, hp1, rfl, rfl, hP, hS, hl, rfl⟩ := hI
    have ni : i < (parts z t).length := by omega
    have l26 := (r4 i ni).2.2.2
    refine lv_iload_n hx hb dX8_labelAt_2 rfl (lv_at hl 0 rfl) ?_
    refine lv_aload_n hx hb dX8_labelAt_3 rfl (lv_at hl 1 rfl) ?_
    refine m_get (v := .ref (md G 10)) hx hb htu wu_in hown hK hP 10 (by decide) (htu _ U_80) rfl rfl dX8_labelAt_4 ?_
    refine lv_iload_n hx hb dX8_labelAt_7 rfl (lv_at hl 2 rfl) ?_
    refine m_ald (j := t) (v := nI ((parts z t).length)) hx hb hK hP 9 10 rfl (by omega) (by decide) r1 dX8_labelAt_8 ?_
    refine lv_icmp_ge (tgt := 35) hx hb dX8_labelAt_9 (by decide) (fun c_2 => absurd c_2 (nI_ge ni (by omega))) (fun c_2 => ?_)
    refine lv_aload_n hx hb dX8_labelAt_12 rfl (lv_at hl 1 rfl) ?_
    refine m_get (v := .ref (md G 12)) hx hb htu wu_in hown hK hP 12 (by decide) (htu _ U_89) rfl rfl dX8_labelAt_13 ?_
    refine lv_bipush (v := 6) hx hb dX8_labelAt_16 (by decide) ?_
    refine lv_iload_n hx hb dX8_labelAt_18 rfl (lv_at hl 2 rfl) ?_
    refine lv_imul hx hb dX8_labelAt_19 ?_
    refine m_top (y := nI (6 * t)) (pk_mul 6 t) ?_
    refine lv_iload_n hx hb dX8_labelAt_20 rfl (lv_at hl 0 rfl) ?_
    refine lv_iadd hx hb dX8_labelAt_21 ?_
    refine m_top (y := nI (6 * t + i)) (nI_add (6 * t) i) ?_
    refine m_ald (j := 6 * t + i) (v := nI ((labs z t).getD i 0)) hx hb hK hP 11 12 rfl (by omega) (by decide) (r4 i ni).1 dX8_labelAt_22 ?_
    refine lv_iload_n hx hb dX8_labelAt_23 rfl (lv_at hl 3 rfl) ?_
    refine lv_icmp_ne (tgt := 29) hx hb dX8_labelAt_24 (by decide) (fun c_3 => ?_) (fun c_3 => ?_)
    · skip
      have nc_3 : ¬ (labs z t).getD i 0 = x := fun h9 => c_3 ((nI_eq (a := (labs z t).getD i 0) (b := x) (by omega) (by omega)).mpr h9)
      refine lv_iinc (v := nI (i + 1)) (lv' := [(3, .int (nI (i + 1))), (0, .ref (mh G)), (1, .int (nI t)), (2, .int (nI x))]) hx hb dX8_labelAt_29 hl (k := 0) rfl (nI_1 i) (by decide) rfl (fun ls hl => ?_)
      refine lv_goto (tgt := 2) hx hb dX8_labelAt_32 (by decide) ?_
      exact ih9 _ _ _ _ _ ⟨i + 1, ls, by omega, fun q hq => by rcases Nat.lt_or_ge q i with h9 | h9; exact hp1 q h9; rw [show q = i by omega]; exact nc_3, rfl, rfl, hP, hS, lv_sub hl [0, 1, 2, 3] rfl, rfl⟩
    · skip
      have nc_3 : (labs z t).getD i 0 = x := (nI_eq (a := (labs z t).getD i 0) (b := x) (by omega) (by omega)).mp c_3
      refine lv_iload_n hx hb dX8_labelAt_27 rfl (lv_at hl 0 rfl) ?_
      exact m_iret (v := nI i) hx hb hr hK hP hS ⟨rfl, Or.inr ⟨i, ni, rfl, nc_3, fun j hj => hp1 j hj⟩⟩ dX8_labelAt_28 hlocks

set_option maxHeartbeats 4000000 in
set_option maxRecDepth 100000 in
/-- wasAsked -/
theorem m_wasAsked (l : Launch) (G : mG) (hDD : mDD G) (o : Nat → Int32) (F : Nat → Nat → Int32) (z : aS) (ix : Nat → Nat → Nat) (a : Nat) (b : Nat) (hR : MR z ix o F) (ha : a < nT z) (hb0 : b < nT z) (sz : Nat) : Met l yX8_wasAsked (wU yX8_wasAsked cX8_wasAsked 4 (some .boolean)) { frames := 0, cells := 0, slots := 0, locals := 0 } (mPc G o F sz [.ref (mh G), .int (nI a), .int (nI b)]) (mQi G sz (fun r u => u = (o, F) ∧ ((r = 1 ∧ (a, b) ∈ z.2.2) ∨ (r = 0 ∧ (a, b) ∉ z.2.2)))) 0 0 (mA G sz) := by
  refine Met.ofW (cc := cX8_wasAsked) (maxL := 4) (ret := (some .boolean)) (by decide) rfl ?_
  intro p e s m args below meth c s₁ B hml hv
  obtain ⟨rfl, hsz, hP, hK⟩ := hv
  have hx := B.exec
  have hb := B.bytes
  have hr := B.returns
  have htu : ∀ w ∈ WU, w.before _ s = true := fun w h => atoms_spec (ws := (wU yX8_wasAsked cX8_wasAsked 4 (some .boolean))) B.pre w (List.mem_cons_of_mem _ h)
  have hown : s.vm.findClass RX8 = some m.cls := findClass_of_methodNamed B.named
  have hlocks := B.notSynchronized
  subst hsz
  have hS : va_S (mA G s.heap.size) s.heap s.heap [] := va_S.rf
  have hl := lv_entry ([.ref (mh G), .int (nI a), .int (nI b)]) (n := 4) (Nat.le_of_ble_eq_true rfl)
  rw [lg_entry_eq]
  generalize (lg_sl ([.ref (mh G), .int (nI a), .int (nI b)]) ++ List.replicate (4 - (lg_sl ([.ref (mh G), .int (nI a), .int (nI b)])).length) Slot.unset).toArray = ls at hl ⊢
  have hl : lv_has ls 4 [(0, .ref (mh G)), (1, .int (nI a)), (2, .int (nI b))] := hl
  obtain ⟨H, hHe⟩ : ∃ H : Heap, H = s.heap := ⟨_, rfl⟩
  rw [← hHe] at hP
  have hS : va_S (mA G s.heap.size) s.heap H [] := by rw [hHe]; exact va_S.rf
  refine W.heq hHe ?_
  obtain ⟨b1, b2, b3, b4, b5, b6, b7, b8⟩ := hR.2.1
  have hq := hR.2.2.2.2.2.2.2.2
  refine lv_iconst (v := 0) hx hb dX8_wasAsked_0 (by decide) ?_
  refine lv_istore_n (lv' := [(3, .int 0), (0, .ref (mh G)), (1, .int (nI a)), (2, .int (nI b))]) hx hb dX8_wasAsked_1 rfl hl (by decide) rfl (fun ls hl => ?_)
  refine w_loop (fun j H locs k sl g => ∃ (i : Nat) (ls : Array Slot), i + j = z.2.2.length ∧ (∀ q, q < i → ¬ (F 29 q = nI a ∧ F 30 q = nI b)) ∧ k = 0 ∧ sl = 0 ∧ mP G o F H ∧ va_S (mA G s.heap.size) s.heap H locs ∧ lv_has ls 4 [(3, .int (nI i)), (0, .ref (mh G)), (1, .int (nI a)), (2, .int (nI b))] ∧ g = F0 m 2 ls []) ?_ ?_ z.2.2.length _ _ _ _ _ ⟨0, ls, by omega, fun q hq => absurd hq (by omega), rfl, rfl, hP, hS, lv_sub hl [0, 1, 2, 3] rfl, rfl⟩
  · intro H locs k sl g hI
    obtain ⟨i, ls, hp0, hp1, rfl, rfl, hP, hS, hl, rfl⟩ := hI
    refine lv_iload_n hx hb dX8_wasAsked_2 rfl (lv_at hl 0 rfl) ?_
    refine lv_aload_n hx hb dX8_wasAsked_3 rfl (lv_at hl 1 rfl) ?_
    refine m_get (v := .int (nI (z.2.2.length))) hx hb htu wu_in hown hK hP 28 (by decide) (htu _ U_46) rfl (m_v hR.1.2.2.2.2.2.2.2) dX8_wasAsked_4 ?_
    refine lv_icmp_ge (tgt := 38) hx hb dX8_wasAsked_7 (by decide) (fun c_1 => ?_) (fun c_1 => absurd (nI_le (by omega) (by omega)) c_1)
    refine lv_iconst (v := 0) hx hb dX8_wasAsked_38 (by decide) ?_
    exact m_zret (v := 0) hx hb hr hK hP hS rfl ⟨rfl, Or.inr ⟨rfl, fun hm => by obtain ⟨i2, hi2, e1, e2⟩ := (hq.mem b1 ha hb0).mp hm; exact hp1 i2 (by omega) ⟨e1, e2⟩⟩⟩ dX8_wasAsked_39 hlocks
  · intro j ih9 H locs k sl g hI
    obtain ⟨i, ls, hp0, hp1, rfl, rfl, hP, hS, hl, rfl⟩ := hI
    have ni : i < z.2.2.length := by omega
    refine lv_iload_n hx hb dX8_wasAsked_2 rfl (lv_at hl 0 rfl) ?_
    refine lv_aload_n hx hb dX8_wasAsked_3 rfl (lv_at hl 1 rfl) ?_
    refine m_get (v := .int (nI (z.2.2.length))) hx hb htu wu_in hown hK hP 28 (by decide) (htu _ U_46) rfl (m_v hR.1.2.2.2.2.2.2.2) dX8_wasAsked_4 ?_
    refine lv_icmp_ge (tgt := 38) hx hb dX8_wasAsked_7 (by decide) (fun c_2 => absurd c_2 (nI_ge ni (by omega))) (fun c_2 => ?_)
    refine lv_aload_n hx hb dX8_wasAsked_10 rfl (lv_at hl 1 rfl) ?_
    refine m_get (v := .ref (md G 29)) hx hb htu wu_in hown hK hP 29 (by decide) (htu _ U_159) rfl rfl dX8_wasAsked_11 ?_
    refine lv_iload_n hx hb dX8_wasAsked_14 rfl (lv_at hl 0 rfl) ?_
    refine m_ald (j := i) (v := F 29 i) hx hb hK hP 19 29 rfl (by omega) (by decide) rfl dX8_wasAsked_15 ?_
    refine lv_iload_n hx hb dX8_wasAsked_16 rfl (lv_at hl 2 rfl) ?_
    refine lv_icmp_ne (tgt := 32) hx hb dX8_wasAsked_17 (by decide) (fun c_3 => ?_) (fun c_3 => ?_)
    · skip
      refine lv_iinc (v := nI (i + 1)) (lv' := [(3, .int (nI (i + 1))), (0, .ref (mh G)), (1, .int (nI a)), (2, .int (nI b))]) hx hb dX8_wasAsked_32 hl (k := 0) rfl (nI_1 i) (by decide) rfl (fun ls hl => ?_)
      refine lv_goto (tgt := 2) hx hb dX8_wasAsked_35 (by decide) ?_
      exact ih9 _ _ _ _ _ ⟨i + 1, ls, by omega, fun q hq2 => by rcases Nat.lt_or_ge q i with h9 | h9; exact hp1 q h9; rw [show q = i by omega]; exact fun h9 => c_3 h9.1, rfl, rfl, hP, hS, lv_sub hl [0, 1, 2, 3] rfl, rfl⟩
    · skip
      refine lv_aload_n hx hb dX8_wasAsked_20 rfl (lv_at hl 1 rfl) ?_
      refine m_get (v := .ref (md G 30)) hx hb htu wu_in hown hK hP 30 (by decide) (htu _ U_160) rfl rfl dX8_wasAsked_21 ?_
      refine lv_iload_n hx hb dX8_wasAsked_24 rfl (lv_at hl 0 rfl) ?_
      refine m_ald (j := i) (v := F 30 i) hx hb hK hP 20 30 rfl (by omega) (by decide) rfl dX8_wasAsked_25 ?_
      refine lv_iload_n hx hb dX8_wasAsked_26 rfl (lv_at hl 3 rfl) ?_
      refine lv_icmp_ne (tgt := 32) hx hb dX8_wasAsked_27 (by decide) (fun c_4 => ?_) (fun c_4 => ?_)
      · skip
        refine lv_iinc (v := nI (i + 1)) (lv' := [(3, .int (nI (i + 1))), (0, .ref (mh G)), (1, .int (nI a)), (2, .int (nI b))]) hx hb dX8_wasAsked_32 hl (k := 0) rfl (nI_1 i) (by decide) rfl (fun ls hl => ?_)
        refine lv_goto (tgt := 2) hx hb dX8_wasAsked_35 (by decide) ?_
        exact ih9 _ _ _ _ _ ⟨i + 1, ls, by omega, fun q hq2 => by rcases Nat.lt_or_ge q i with h9 | h9; exact hp1 q h9; rw [show q = i by omega]; exact fun h9 => c_4 h9.2, rfl, rfl, hP, hS, lv_sub hl [0, 1, 2, 3] rfl, rfl⟩
      · skip
        refine lv_iconst (v := 1) hx hb dX8_wasAsked_30 (by decide) ?_
        exact m_zret (v := 1) hx hb hr hK hP hS rfl ⟨rfl, Or.inl ⟨rfl, (hq.mem b1 ha hb0).mpr ⟨i, ni, c_3, c_4⟩⟩⟩ dX8_wasAsked_31 hlocks

def mLiftAt (fu : Nat) : Prop := ∀ (l : Launch) (G : mG) (hDD : mDD G) (o : Nat → Int32) (F : Nat → Nat → Int32) (z : aS) (ix : Nat → Nat → Nat) (lf : Nat) (t : Nat) (way : Nat) (mm : Nat) (hm : Nat) (tv : Int32) (hR : MR z ix o F) (hML : ML lf z F) (hlf : lf < 2 ^ 31) (hw2 : way < 2) (hmm : mm ≤ 100) (hh : o 39 = nI hm) (hb0 : bnd (cp fu z t way mm mm).1 ≤ 200000) (hd : o 32 = nI (60 - fu)) (hfu : fu ≤ 60) (hh2 : sto z = 0 → hm + 6 * fu ≤ 8000) (hhm : hm ≤ 100000) (htv : sto z = 0 → tv = nI t ∧ t < nT z) (sz : Nat), Met l yX8_lift (wU yX8_lift cX8_lift 6 (some .int)) { frames := 3 * fu + 6, cells := 0, slots := 0, locals := 82 * fu + 200 } (mPc G o F sz [.ref (mh G), .int tv, .int (nI way), .int (nI mm), .int (nI lf)]) (mQi G sz (fun r u => LQ [7, 8, 9, 10, 11, 12, 13, 14, 15, 16, 17, 18, 19, 20, 21, 24, 27, 32, 36, 37, 38, 39] (ML lf) z ix hm fu o F (cp fu z t way mm mm) r u ∧ u.1 32 = o 32)) 0 0 (mA G sz)

def mLiftsAt (fu : Nat) : Prop := ∀ (l : Launch) (G : mG) (hDD : mDD G) (o : Nat → Int32) (F : Nat → Nat → Int32) (z : aS) (ix : Nat → Nat → Nat) (lf : Nat) (t : Nat) (way : Nat) (mm : Nat) (hm : Nat) (hR : MR z ix o F) (hML : ML lf z F) (hlf : lf < 2 ^ 31) (hw2 : way < 2) (hmm : mm ≤ 100) (hh : o 39 = nI hm) (hb0 : bnd (cp (fu + 1) z t way mm mm).1 ≤ 200000) (hd : o 32 = nI (60 - fu)) (hfu : fu < 60) (hh2 : hm + 6 * (fu + 1) ≤ 8000) (h0 : sto z = 0) (ht : t < nT z) (sz : Nat), Met l yX8_lifts (wU yX8_lifts cX8_lifts 11 (some .int)) { frames := 3 * fu + 8, cells := 0, slots := 0, locals := 82 * fu + 252 } (mPc G o F sz [.ref (mh G), .int (nI t), .int (nI way), .int (nI mm), .int (nI lf)]) (mQi G sz (fun r u => LQ [7, 8, 9, 10, 11, 12, 13, 14, 15, 16, 17, 18, 19, 20, 21, 24, 27, 32, 36, 37, 38, 39] (ML lf) z ix hm (fu + 1) o F (cp (fu + 1) z t way mm mm) r u ∧ u.1 32 = o 32)) 0 0 (mA G sz)

set_option maxHeartbeats 4000000 in
set_option maxRecDepth 100000 in
/-- lift, too deep -/
theorem m_lift_0_w (l : Launch) (G : mG) (hDD : mDD G) (o : Nat → Int32) (F : Nat → Nat → Int32) (z : aS) (ix : Nat → Nat → Nat) (lf : Nat) (t : Nat) (way : Nat) (mm : Nat) (hm : Nat) (tv : Int32) (hR : MR z ix o F) (hML : ML lf z F) (hlf : lf < 2 ^ 31) (hw2 : way < 2) (hmm : mm ≤ 100) (hh : o 39 = nI hm) (hb0 : bnd (cp 0 z t way mm mm).1 ≤ 200000) (hd : o 32 = nI (60 - 0)) (hfu : 0 ≤ 60) (hh2 : sto z = 0 → hm + 6 * 0 ≤ 8000) (hhm : hm ≤ 100000) (htv : sto z = 0 → tv = nI t ∧ t < nT z) (sz : Nat) : Met l yX8_lift (wU yX8_lift cX8_lift 6 (some .int)) { frames := 3 * 0 + 6, cells := 0, slots := 0, locals := 82 * 0 + 200 } (mPc G o F sz [.ref (mh G), .int tv, .int (nI way), .int (nI mm), .int (nI lf)]) (mQi G sz (fun r u => LQ [7, 8, 9, 10, 11, 12, 13, 14, 15, 16, 17, 18, 19, 20, 21, 24, 27, 32, 36, 37, 38, 39] (ML lf) z ix hm 0 o F (cp 0 z t way mm mm) r u ∧ u.1 32 = o 32)) 0 0 (mA G sz) := by
  refine Met.ofW (cc := cX8_lift) (maxL := 6) (ret := (some .int)) (by decide) rfl ?_
  intro p e s m args below meth c s₁ B hml hv
  obtain ⟨rfl, hsz, hP, hK⟩ := hv
  have hx := B.exec
  have hb := B.bytes
  have hr := B.returns
  have htu : ∀ w ∈ WU, w.before _ s = true := fun w h => atoms_spec (ws := (wU yX8_lift cX8_lift 6 (some .int))) B.pre w (List.mem_cons_of_mem _ h)
  have hown : s.vm.findClass RX8 = some m.cls := findClass_of_methodNamed B.named
  have hlocks := B.notSynchronized
  subst hsz
  have hS : va_S (mA G s.heap.size) s.heap s.heap [] := va_S.rf
  have hl := lv_entry ([.ref (mh G), .int tv, .int (nI way), .int (nI mm), .int (nI lf)]) (n := 6) (Nat.le_of_ble_eq_true rfl)
  rw [lg_entry_eq]
  generalize (lg_sl ([.ref (mh G), .int tv, .int (nI way), .int (nI mm), .int (nI lf)]) ++ List.replicate (6 - (lg_sl ([.ref (mh G), .int tv, .int (nI way), .int (nI mm), .int (nI lf)])).length) Slot.unset).toArray = ls at hl ⊢
  have hl : lv_has ls 6 [(0, .ref (mh G)), (1, .int tv), (2, .int (nI way)), (3, .int (nI mm)), (4, .int (nI lf))] := hl
  obtain ⟨H, hHe⟩ : ∃ H : Heap, H = s.heap := ⟨_, rfl⟩
  rw [← hHe] at hP
  have hS : va_S (mA G s.heap.size) s.heap H [] := by rw [hHe]; exact va_S.rf
  refine W.heq hHe ?_
  obtain ⟨b1, b2, b3, b4, b5, b6, b7, b8⟩ := hR.2.1
  refine lv_aload_n hx hb dX8_lift_0 rfl (lv_at hl 0 rfl) ?_
  refine m_get (v := .int (sc (sto z))) hx hb htu wu_in hown hK hP 27 (by decide) (htu _ U_45) rfl (m_v hR.1.2.2.2.2.1) dX8_lift_1 ?_
  refine lv_if_eq (tgt := 10) hx hb dX8_lift_4 (by decide) (fun c_1 => ?_) (fun c_1 => ?_)
  · skip
    refine lv_aload_n hx hb dX8_lift_10 rfl (lv_at hl 0 rfl) ?_
    refine m_get (v := .int 60) hx hb htu wu_in hown hK hP 32 (by decide) (htu _ U_48) rfl (m_v hd) dX8_lift_11 ?_
    refine lv_bipush (v := 60) hx hb dX8_lift_14 (by decide) ?_
    refine lv_icmp_ne (tgt := 32) hx hb dX8_lift_16 (by decide) (fun c_2 => absurd (by decide) c_2) (fun c_2 => ?_)
    refine lv_aload_n hx hb dX8_lift_19 rfl (lv_at hl 0 rfl) ?_
    refine lv_bipush (v := (-6)) hx hb dX8_lift_20 (by decide) ?_
    refine lv_aload_n hx hb dX8_lift_22 rfl (lv_at hl 0 rfl) ?_
    refine m_get (v := .int (nI (askn z))) hx hb htu wu_in hown hK hP 25 (by decide) (htu _ U_61) rfl (m_v hR.1.2.2.2.2.2.2.1) dX8_lift_23 ?_
    refine m_cv (m_runV (As := [.int ((-6)), .int (nI (askn z))]) (rest := []) ⟨hx, hb, hml, hown, htu⟩ (m_stops l G hDD o F z ix 1 ((askn z)) hR ((Or.inl rfl)) ((by omega)) H.size) (cwV 2 htu gU_X8_stops rfl rfl rfl (by decide +kernel) ⟨show 0 + 1 ≤ 3 * 0 + 6 by omega, show 8 + (3 + 11) + 0 ≤ 82 * 0 + 200 by omega⟩) hP hK rfl hl.1 rfl (lv_room (Nat.le_of_ble_eq_true rfl)) dX8_lift_26) hS (fun o_4 F_5 H locs hw_6 hP hS => ?_)
    try dsimp only at hw_6
    refine lv_bipush (v := (-9)) hx hb dX8_lift_29 (by decide) ?_
    exact m_iret (v := (-9)) hx hb hr hK hP hS ⟨⟨⟨ix, hw_6.1, Px.rf⟩, hML.to (me_stops z 1 (askn z)) (x_stops _ _ _).1 (hw_6.2 36 (by decide)).2 (hw_6.2 37 (by decide)).2, fun h => absurd h (stops_sto hR), fun h => absurd (sc_0.mp c_1) h, HM.own hh (hw_6.2 39 (by decide)).1 (hw_6.2 38 (by decide)).2, hw_6.2.mono (by decide)⟩, (hw_6.2 32 (by decide)).1⟩ dX8_lift_31 hlocks
  · skip
    refine lv_bipush (v := (-9)) hx hb dX8_lift_7 (by decide) ?_
    exact m_iret (v := (-9)) hx hb hr hK hP hS (by rw [cp_stop (k := 0) (fun h => c_1 (sc_0.mpr h))]; exact ⟨⟨⟨ix, hR, Px.rf⟩, hML, fun h => absurd h (fun h => c_1 (sc_0.mpr h)), fun _ => rfl, HM.rf hh, Kq.rf⟩, rfl⟩) dX8_lift_9 hlocks

set_option maxHeartbeats 4000000 in
set_option maxRecDepth 100000 in
/-- lift, one deeper -/
theorem m_lift_s (l : Launch) (G : mG) (hDD : mDD G) (o : Nat → Int32) (F : Nat → Nat → Int32) (fu : Nat) (z : aS) (ix : Nat → Nat → Nat) (lf : Nat) (t : Nat) (way : Nat) (mm : Nat) (hm : Nat) (tv : Int32) (hL : mLiftsAt fu) (hR : MR z ix o F) (hML : ML lf z F) (hlf : lf < 2 ^ 31) (hw2 : way < 2) (hmm : mm ≤ 100) (hh : o 39 = nI hm) (hb0 : bnd (cp (fu + 1) z t way mm mm).1 ≤ 200000) (hd : o 32 = nI (60 - (fu + 1))) (hfu : fu + 1 ≤ 60) (hh2 : sto z = 0 → hm + 6 * (fu + 1) ≤ 8000) (hhm : hm ≤ 100000) (htv : sto z = 0 → tv = nI t ∧ t < nT z) (sz : Nat) : Met l yX8_lift (wU yX8_lift cX8_lift 6 (some .int)) { frames := 3 * (fu + 1) + 6, cells := 0, slots := 0, locals := 82 * (fu + 1) + 200 } (mPc G o F sz [.ref (mh G), .int tv, .int (nI way), .int (nI mm), .int (nI lf)]) (mQi G sz (fun r u => LQ [7, 8, 9, 10, 11, 12, 13, 14, 15, 16, 17, 18, 19, 20, 21, 24, 27, 32, 36, 37, 38, 39] (ML lf) z ix hm (fu + 1) o F (cp (fu + 1) z t way mm mm) r u ∧ u.1 32 = o 32)) 0 0 (mA G sz) := by
  refine Met.ofW (cc := cX8_lift) (maxL := 6) (ret := (some .int)) (by decide) rfl ?_
  intro p e s m args below meth c s₁ B hml hv
  obtain ⟨rfl, hsz, hP, hK⟩ := hv
  have hx := B.exec
  have hb := B.bytes
  have hr := B.returns
  have htu : ∀ w ∈ WU, w.before _ s = true := fun w h => atoms_spec (ws := (wU yX8_lift cX8_lift 6 (some .int))) B.pre w (List.mem_cons_of_mem _ h)
  have hown : s.vm.findClass RX8 = some m.cls := findClass_of_methodNamed B.named
  have hlocks := B.notSynchronized
  subst hsz
  have hS : va_S (mA G s.heap.size) s.heap s.heap [] := va_S.rf
  have hl := lv_entry ([.ref (mh G), .int tv, .int (nI way), .int (nI mm), .int (nI lf)]) (n := 6) (Nat.le_of_ble_eq_true rfl)
  rw [lg_entry_eq]
  generalize (lg_sl ([.ref (mh G), .int tv, .int (nI way), .int (nI mm), .int (nI lf)]) ++ List.replicate (6 - (lg_sl ([.ref (mh G), .int tv, .int (nI way), .int (nI mm), .int (nI lf)])).length) Slot.unset).toArray = ls at hl ⊢
  have hl : lv_has ls 6 [(0, .ref (mh G)), (1, .int tv), (2, .int (nI way)), (3, .int (nI mm)), (4, .int (nI lf))] := hl
  obtain ⟨H, hHe⟩ : ∃ H : Heap, H = s.heap := ⟨_, rfl⟩
  rw [← hHe] at hP
  have hS : va_S (mA G s.heap.size) s.heap H [] := by rw [hHe]; exact va_S.rf
  refine W.heq hHe ?_
  obtain ⟨b1, b2, b3, b4, b5, b6, b7, b8⟩ := hR.2.1
  refine lv_aload_n hx hb dX8_lift_0 rfl (lv_at hl 0 rfl) ?_
  refine m_get (v := .int (sc (sto z))) hx hb htu wu_in hown hK hP 27 (by decide) (htu _ U_45) rfl (m_v hR.1.2.2.2.2.1) dX8_lift_1 ?_
  refine lv_if_eq (tgt := 10) hx hb dX8_lift_4 (by decide) (fun c_1 => ?_) (fun c_1 => ?_)
  · skip
    have h0 : sto z = 0 := sc_0.mp c_1
    obtain ⟨rfl, ht⟩ := htv h0
    refine lv_aload_n hx hb dX8_lift_10 rfl (lv_at hl 0 rfl) ?_
    refine m_get (v := .int (nI (60 - (fu + 1)))) hx hb htu wu_in hown hK hP 32 (by decide) (htu _ U_48) rfl (m_v hd) dX8_lift_11 ?_
    refine lv_bipush (v := 60) hx hb dX8_lift_14 (by decide) ?_
    refine lv_icmp_ne (tgt := 32) hx hb dX8_lift_16 (by decide) (fun c_2 => ?_) (fun c_2 => absurd c_2 (fun h9 => absurd ((nI_eq (b := 60) (by omega) (by omega)).mp h9) (by omega)))
    refine lv_aload_n hx hb dX8_lift_32 rfl (lv_at hl 0 rfl) ?_
    refine lv_dup hx hb dX8_lift_33 rfl ?_
    refine m_get (v := .int (nI (60 - (fu + 1)))) hx hb htu wu_in hown hK hP 32 (by decide) (htu _ U_48) rfl (m_v hd) dX8_lift_34 ?_
    refine lv_iconst (v := 1) hx hb dX8_lift_37 (by decide) ?_
    refine lv_iadd hx hb dX8_lift_38 ?_
    refine m_top (y := nI (60 - (fu + 1) + 1)) (nI_add (60 - (fu + 1)) 1) ?_
    refine m_put (ty := .int) (x := nI (60 - (fu + 1) + 1)) hx hb htu wu_in hown hK hP hDD hS 32 (by decide) (htu _ U_48) rfl rfl (by decide +kernel) rfl rfl (mO_s32 _ _ _) dX8_lift_39 (fun H locs hP hS => ?_)
    refine lv_aload_n hx hb dX8_lift_42 rfl (lv_at hl 0 rfl) ?_
    refine lv_iload_n hx hb dX8_lift_43 rfl (lv_at hl 1 rfl) ?_
    refine lv_iload_n hx hb dX8_lift_44 rfl (lv_at hl 2 rfl) ?_
    refine lv_iload_n hx hb dX8_lift_45 rfl (lv_at hl 3 rfl) ?_
    refine lv_iload hx hb dX8_lift_46 (lv_at hl 4 rfl) ?_
    refine m_ci (m_runV (As := [.int (nI t), .int (nI way), .int (nI mm), .int (nI lf)]) (rest := []) ⟨hx, hb, hml, hown, htu⟩ (hL l G hDD (upd o 32 (nI (60 - (fu + 1) + 1))) F z ix lf t way mm hm hR hML hlf hw2 hmm hh hb0 ((congrArg nI (by omega))) ((by omega)) ((hh2 h0)) h0 ht H.size) (cwV 4 htu gU_X8_lifts rfl rfl rfl (by decide +kernel) ⟨show (3 * fu + 8) + 1 ≤ 3 * (fu + 1) + 6 by omega, show 8 + (11 + 11) + (82 * fu + 252) ≤ 82 * (fu + 1) + 200 by omega⟩) hP hK rfl hl.1 rfl (lv_room (Nat.le_of_ble_eq_true rfl)) dX8_lift_48) hS (fun r_3 o_4 F_5 H locs hw_6 hP hS => ?_)
    try dsimp only at hw_6
    obtain ⟨⟨⟨ix1, hR1, hP1⟩, hM1, hv1, hs1, hH1, hK1⟩, hd1⟩ := hw_6
    refine lv_istore (lv' := [(5, .int r_3), (0, .ref (mh G)), (1, .int (nI t)), (2, .int (nI way)), (3, .int (nI mm)), (4, .int (nI lf))]) hx hb dX8_lift_51 hl (by decide) rfl (fun ls hl => ?_)
    refine lv_aload_n hx hb dX8_lift_53 rfl (lv_at hl 1 rfl) ?_
    refine lv_dup hx hb dX8_lift_54 rfl ?_
    refine m_get (v := .int (nI (60 - (fu + 1) + 1))) hx hb htu wu_in hown hK hP 32 (by decide) (htu _ U_48) rfl (m_v hd1) dX8_lift_55 ?_
    refine lv_iconst (v := 1) hx hb dX8_lift_58 (by decide) ?_
    refine lv_isub hx hb dX8_lift_59 ?_
    refine m_top (y := nI (60 - (fu + 1))) (nI_pred _) ?_
    refine m_put (ty := .int) (x := nI (60 - (fu + 1))) hx hb htu wu_in hown hK hP hDD hS 32 (by decide) (htu _ U_48) rfl rfl (by decide +kernel) rfl rfl (mO_s32 _ _ _) dX8_lift_60 (fun H locs hP hS => ?_)
    refine lv_aload_n hx hb dX8_lift_63 rfl (lv_at hl 1 rfl) ?_
    refine m_get (v := .int (sc (sto (cp (fu + 1) z t way mm mm).1))) hx hb htu wu_in hown hK hP 27 (by decide) (htu _ U_45) rfl (m_v hR1.1.2.2.2.2.1) dX8_lift_64 ?_
    refine lv_if_eq (tgt := 75) hx hb dX8_lift_67 (by decide) (fun c_7 => ?_) (fun c_7 => ?_)
    · skip
      refine lv_iload hx hb dX8_lift_75 (lv_at hl 0 rfl) ?_
      exact m_iret (v := r_3) hx hb hr hK hP hS ⟨⟨⟨ix1, hR1, hP1⟩, hM1, hv1, fun h => absurd h0 h, hH1.next rfl rfl (Nat.le_refl _) id, Kq.o (Kq.tr (Kq.o Kq.rf (by decide)) hK1) (by decide)⟩, hd.symm⟩ dX8_lift_77 hlocks
    · skip
      refine lv_bipush (v := (-9)) hx hb dX8_lift_70 (by decide) ?_
      refine lv_goto (tgt := 77) hx hb dX8_lift_72 (by decide) ?_
      exact m_iret (v := (-9)) hx hb hr hK hP hS ⟨⟨⟨ix1, hR1, hP1⟩, hM1, (fun h => absurd (sc_0.mpr h) c_7), fun h => absurd h0 h, hH1.next rfl rfl (Nat.le_refl _) id, Kq.o (Kq.tr (Kq.o Kq.rf (by decide)) hK1) (by decide)⟩, hd.symm⟩ dX8_lift_77 hlocks
  · skip
    refine lv_bipush (v := (-9)) hx hb dX8_lift_7 (by decide) ?_
    exact m_iret (v := (-9)) hx hb hr hK hP hS (by rw [cp_stop (k := fu + 1) (fun h => c_1 (sc_0.mpr h))]; exact ⟨⟨⟨ix, hR, Px.rf⟩, hML, fun h => absurd h (fun h => c_1 (sc_0.mpr h)), fun _ => rfl, HM.rf hh, Kq.rf⟩, rfl⟩) dX8_lift_9 hlocks

