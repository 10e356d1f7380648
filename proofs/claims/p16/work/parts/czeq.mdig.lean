/-! ===== digest in the second program, exact ===== -/

set_option maxHeartbeats 4000000 in
set_option maxRecDepth 100000 in
/-- digest -/
theorem m9_digest (l : Launch) (G : mG) (hDD : mDD G) (o : Nat → Int32) (F : Nat → Nat → Int32) (N : Nat) (z : aS) (h0N : o 0 = nI N) (hN : N ≤ 120) (h14 : o 14 = nI (nV z)) (hV : nV z ≤ 150) (hc : (Z0 z ∧ sto z = 0 ∧ o 14 = 0 ∧ o 24 = -9) ∨ ∃ ix, MR z ix o F) (sz : Nat) : Met l yX8_digest (wU yX8_digest cX8_digest 5 (some .long)) { frames := 3, cells := 0, slots := 0, locals := 65 } (mPc G o F sz [.ref (mh G)]) (mQl G sz (fun r u => u = (o, F) ∧ r = dgo (vrf z) 3 (nV z) (dgo (mTold F) 16 N 17))) 0 0 (mA G sz) := by
  refine Met.ofW (cc := cX8_digest) (maxL := 5) (ret := (some .long)) (by decide) rfl ?_
  intro p e s m args below meth c s₁ B hml hv
  obtain ⟨rfl, hsz, hP, hK⟩ := hv
  have hx := B.exec
  have hb := B.bytes
  have hr := B.returns
  have htu : ∀ w ∈ WU, w.before _ s = true := fun w h => atoms_spec (ws := (wU yX8_digest cX8_digest 5 (some .long))) B.pre w (List.mem_cons_of_mem _ h)
  have hown : s.vm.findClass RX8 = some m.cls := findClass_of_methodNamed B.named
  have hlocks := B.notSynchronized
  subst hsz
  have hS : va_S (mA G s.heap.size) s.heap s.heap [] := va_S.rf
  have hl := lv_entry ([.ref (mh G)]) (n := 5) (Nat.le_of_ble_eq_true rfl)
  rw [lg_entry_eq]
  generalize (lg_sl ([.ref (mh G)]) ++ List.replicate (5 - (lg_sl ([.ref (mh G)])).length) Slot.unset).toArray = ls at hl ⊢
  have hl : lv_has ls 5 [(0, .ref (mh G))] := hl
  obtain ⟨H, hHe⟩ : ∃ H : Heap, H = s.heap := ⟨_, rfl⟩
  rw [← hHe] at hP
  have hS : va_S (mA G s.heap.size) s.heap H [] := by rw [hHe]; exact va_S.rf
  refine W.heq hHe ?_
  refine lv_ldc2 (v := 17) hx hb hown (htu _ U_266) dX8_digest_0 ?_
  refine lv_lstore_n (lv' := [(1, .long 17), (0, .ref (mh G))]) hx hb dX8_digest_3 rfl hl (by decide) rfl (fun ls hl => ?_)
  refine lv_iconst (v := 0) hx hb dX8_digest_4 (by decide) ?_
  refine lv_istore_n (lv' := [(3, .int 0), (1, .long 17), (0, .ref (mh G))]) hx hb dX8_digest_5 rfl hl (by decide) rfl (fun ls hl => ?_)
  refine w_loop (fun j H locs k sl g => ∃ (La : Int64) (ia : Nat) (ls : Array Slot), ia + j = N ∧ La = dgo (mTold F) 16 ia 17 ∧ k = 0 ∧ sl = 0 ∧ mP G o F H ∧ va_S (mA G s.heap.size) s.heap H locs ∧ lv_has ls 5 [(0, .ref (mh G)), (1, .long La), (3, .int (nI ia))] ∧ g = F0 m 6 ls []) ?_ ?_ N _ _ _ _ _ ⟨17, 0, ls, by omega, dgo_0.symm, rfl, rfl, hP, hS, lv_sub hl [2, 1, 0] rfl, rfl⟩
  · intro H locs k sl g hI
    obtain ⟨La, ia, ls, hpa0, hpa1, rfl, rfl, hP, hS, hl, rfl⟩ := hI
    refine lv_iload_n hx hb dX8_digest_6 rfl (lv_at hl 2 rfl) ?_
    refine lv_aload_n hx hb dX8_digest_7 rfl (lv_at hl 0 rfl) ?_
    refine m_get (v := .int (nI N)) hx hb htu wu_in hown hK hP 0 (by decide) (htu _ U_1) rfl (m_v h0N) dX8_digest_8 ?_
    refine lv_icmp_ge (tgt := 51) hx hb dX8_digest_11 (by decide) (fun c_1 => ?_) (fun c_1 => absurd (nI_le (by omega) (by omega)) c_1)
    refine lv_iconst (v := 0) hx hb dX8_digest_51 (by decide) ?_
    refine lv_istore_n (lv' := [(3, .int 0), (0, .ref (mh G)), (1, .long La)]) hx hb dX8_digest_52 rfl hl (by decide) rfl (fun ls hl => ?_)
    refine w_loop (fun j H locs k sl g => ∃ (Lb : Int64) (ib : Nat) (ls : Array Slot), ib + j = (nV z) ∧ Lb = dgo (vrf z) 3 ib La ∧ k = 0 ∧ sl = 0 ∧ mP G o F H ∧ va_S (mA G s.heap.size) s.heap H locs ∧ lv_has ls 5 [(0, .ref (mh G)), (1, .long Lb), (3, .int (nI ib))] ∧ g = F0 m 53 ls []) ?_ ?_ ((nV z)) _ _ _ _ _ ⟨La, 0, ls, by omega, dgo_0.symm, rfl, rfl, hP, hS, lv_sub hl [1, 2, 0] rfl, rfl⟩
    · intro H locs k sl g hI
      obtain ⟨Lb, ib, ls, hpb0, hpb1, rfl, rfl, hP, hS, hl, rfl⟩ := hI
      refine lv_iload_n hx hb dX8_digest_53 rfl (lv_at hl 2 rfl) ?_
      refine lv_aload_n hx hb dX8_digest_54 rfl (lv_at hl 0 rfl) ?_
      refine m_get (v := .int (nI (nV z))) hx hb htu wu_in hown hK hP 14 (by decide) (htu _ U_40) rfl (m_v h14) dX8_digest_55 ?_
      refine lv_icmp_ge (tgt := 97) hx hb dX8_digest_58 (by decide) (fun c_2 => ?_) (fun c_2 => absurd (nI_le (by omega) (by omega)) c_2)
      refine lv_lload_n hx hb dX8_digest_97 rfl (lv_at hl 1 rfl) ?_
      exact m_lret (v := Lb) hx hb hr hK hP hS ⟨rfl, dgo_e hpb1 hpb0 hpa1 hpa0⟩ dX8_digest_98 hlocks
    · intro j ih9b H locs k sl g hI
      obtain ⟨Lb, ib, ls, hpb0, hpb1, rfl, rfl, hP, hS, hl, rfl⟩ := hI
      refine lv_iload_n hx hb dX8_digest_53 rfl (lv_at hl 2 rfl) ?_
      refine lv_aload_n hx hb dX8_digest_54 rfl (lv_at hl 0 rfl) ?_
      refine m_get (v := .int (nI (nV z))) hx hb htu wu_in hown hK hP 14 (by decide) (htu _ U_40) rfl (m_v h14) dX8_digest_55 ?_
      refine lv_icmp_ge (tgt := 97) hx hb dX8_digest_58 (by decide) (fun c_3 => absurd c_3 (nI_ge (by omega) (by omega))) (fun c_3 => ?_)
      refine lv_iconst (v := 0) hx hb dX8_digest_61 (by decide) ?_
      refine lv_istore (lv' := [(4, .int 0), (0, .ref (mh G)), (1, .long Lb), (3, .int (nI ib))]) hx hb dX8_digest_62 hl (by decide) rfl (fun ls hl => ?_)
      refine w_loop (fun j H locs k sl g => ∃ (Mb : Int64) (kb : Nat) (ls : Array Slot), kb + j = 3 ∧ Mb = dgi (vrf z) ib kb Lb ∧ k = 0 ∧ sl = 0 ∧ mP G o F H ∧ va_S (mA G s.heap.size) s.heap H locs ∧ lv_has ls 5 [(0, .ref (mh G)), (1, .long Mb), (3, .int (nI ib)), (4, .int (nI kb))] ∧ g = F0 m 64 ls []) ?_ ?_ 3 _ _ _ _ _ ⟨Lb, 0, ls, by omega, dgi_0.symm, rfl, rfl, hP, hS, lv_sub hl [1, 2, 3, 0] rfl, rfl⟩
      · intro H locs k sl g hI
        obtain ⟨Mb, kb, ls, hrb0, hrb1, rfl, rfl, hP, hS, hl, rfl⟩ := hI
        refine lv_iload hx hb dX8_digest_64 (lv_at hl 3 rfl) ?_
        refine lv_iconst (v := 3) hx hb dX8_digest_66 (by decide) ?_
        refine lv_icmp_ge (tgt := 91) hx hb dX8_digest_67 (by decide) (fun c_4 => ?_) (fun c_4 => absurd (nI_le (a := 3) (by omega) (by omega)) c_4)
        refine lv_iinc (v := nI (ib + 1)) (lv' := [(3, .int (nI (ib + 1))), (0, .ref (mh G)), (1, .long Mb), (4, .int (nI kb))]) hx hb dX8_digest_91 hl (k := 2) rfl (nI_1 ib) (by decide) rfl (fun ls hl => ?_)
        refine lv_goto (tgt := 53) hx hb dX8_digest_94 (by decide) ?_
        exact ih9b _ _ _ _ _ ⟨Mb, ib + 1, ls, by omega, dgo_t hrb1 hrb0 hpb1, rfl, rfl, hP, hS, lv_sub hl [1, 2, 0] rfl, rfl⟩
      · intro j ih7b H locs k sl g hI
        obtain ⟨Mb, kb, ls, hrb0, hrb1, rfl, rfl, hP, hS, hl, rfl⟩ := hI
        refine lv_iload hx hb dX8_digest_64 (lv_at hl 3 rfl) ?_
        refine lv_iconst (v := 3) hx hb dX8_digest_66 (by decide) ?_
        refine lv_icmp_ge (tgt := 91) hx hb dX8_digest_67 (by decide) (fun c_5 => absurd c_5 (nI_ge (b := 3) (by omega) (by omega))) (fun c_5 => ?_)
        refine lv_ldc2 (v := 31) hx hb hown (htu _ U_267) dX8_digest_70 ?_
        refine lv_lload_n hx hb dX8_digest_73 rfl (lv_at hl 1 rfl) ?_
        refine lv_lmul hx hb dX8_digest_74 ?_
        refine lv_topl (fun f_6 ef_6 => ?_)
        refine lv_aload_n hx hb dX8_digest_75 rfl (lv_at hl 0 rfl) ?_
        refine lv_iload_n hx hb dX8_digest_76 rfl (lv_at hl 2 rfl) ?_
        refine lv_iload hx hb dX8_digest_77 (lv_at hl 3 rfl) ?_
        refine m_ci (m_runV (As := [.int (nI ib), .int (nI kb)]) (rest := [.long f_6]) ⟨hx, hb, hml, hown, htu⟩ (m9_variable l G hDD o F z (nI ib) (nI kb) hc H.size) (cwV 2 htu gU_X8_variable rfl rfl rfl (by decide +kernel) ⟨Nat.le_of_ble_eq_true rfl, Nat.le_of_ble_eq_true rfl⟩) hP hK rfl hl.1 rfl (lv_room (Nat.le_of_ble_eq_true rfl)) dX8_digest_79) hS (fun r_7 o_8 F_9 H locs hw_10 hP hS => ?_)
        try dsimp only at hw_10
        obtain ⟨h91, h92⟩ := Prod.mk.inj hw_10.1
        have h91 := h91.symm
        subst h91
        have h92 := h92.symm
        subst h92
        refine lv_i2l hx hb dX8_digest_82 (v := _) rfl ?_
        refine lv_topl (fun f_11 ef_11 => ?_)
        refine lv_ladd hx hb dX8_digest_83 ?_
        refine lv_topl (fun f_12 ef_12 => ?_)
        refine lv_lstore_n (lv' := [(1, .long f_12), (0, .ref (mh G)), (3, .int (nI ib)), (4, .int (nI kb))]) hx hb dX8_digest_84 rfl hl (by decide) rfl (fun ls hl => ?_)
        refine lv_iinc (v := nI (kb + 1)) (lv' := [(4, .int (nI (kb + 1))), (1, .long f_12), (0, .ref (mh G)), (3, .int (nI ib))]) hx hb dX8_digest_85 hl (k := 3) rfl (nI_1 kb) (by decide) rfl (fun ls hl => ?_)
        refine lv_goto (tgt := 64) hx hb dX8_digest_88 (by decide) ?_
        exact ih7b _ _ _ _ _ ⟨f_12, kb + 1, ls, by omega, dgi_t hrb1 ef_6 (vrf_at (Nat.le_trans hV (by decide)) (show ib < nV z by omega) (show kb < 3 by omega) hw_10.2) ef_11 ef_12, rfl, rfl, hP, hS, lv_sub hl [2, 1, 3, 0] rfl, rfl⟩
  · intro j ih9a H locs k sl g hI
    obtain ⟨La, ia, ls, hpa0, hpa1, rfl, rfl, hP, hS, hl, rfl⟩ := hI
    refine lv_iload_n hx hb dX8_digest_6 rfl (lv_at hl 2 rfl) ?_
    refine lv_aload_n hx hb dX8_digest_7 rfl (lv_at hl 0 rfl) ?_
    refine m_get (v := .int (nI N)) hx hb htu wu_in hown hK hP 0 (by decide) (htu _ U_1) rfl (m_v h0N) dX8_digest_8 ?_
    refine lv_icmp_ge (tgt := 51) hx hb dX8_digest_11 (by decide) (fun c_13 => absurd c_13 (nI_ge (by omega) (by omega))) (fun c_13 => ?_)
    refine lv_iconst (v := 0) hx hb dX8_digest_14 (by decide) ?_
    refine lv_istore (lv' := [(4, .int 0), (0, .ref (mh G)), (1, .long La), (3, .int (nI ia))]) hx hb dX8_digest_15 hl (by decide) rfl (fun ls hl => ?_)
    refine w_loop (fun j H locs k sl g => ∃ (Ma : Int64) (ka : Nat) (ls : Array Slot), ka + j = 16 ∧ Ma = dgi (mTold F) ia ka La ∧ k = 0 ∧ sl = 0 ∧ mP G o F H ∧ va_S (mA G s.heap.size) s.heap H locs ∧ lv_has ls 5 [(0, .ref (mh G)), (1, .long Ma), (3, .int (nI ia)), (4, .int (nI ka))] ∧ g = F0 m 17 ls []) ?_ ?_ 16 _ _ _ _ _ ⟨La, 0, ls, by omega, dgi_0.symm, rfl, rfl, hP, hS, lv_sub hl [1, 2, 3, 0] rfl, rfl⟩
    · intro H locs k sl g hI
      obtain ⟨Ma, ka, ls, hra0, hra1, rfl, rfl, hP, hS, hl, rfl⟩ := hI
      refine lv_iload hx hb dX8_digest_17 (lv_at hl 3 rfl) ?_
      refine lv_bipush (v := 16) hx hb dX8_digest_19 (by decide) ?_
      refine lv_icmp_ge (tgt := 45) hx hb dX8_digest_21 (by decide) (fun c_14 => ?_) (fun c_14 => absurd (nI_le (a := 16) (by omega) (by omega)) c_14)
      refine lv_iinc (v := nI (ia + 1)) (lv' := [(3, .int (nI (ia + 1))), (0, .ref (mh G)), (1, .long Ma), (4, .int (nI ka))]) hx hb dX8_digest_45 hl (k := 2) rfl (nI_1 ia) (by decide) rfl (fun ls hl => ?_)
      refine lv_goto (tgt := 6) hx hb dX8_digest_48 (by decide) ?_
      exact ih9a _ _ _ _ _ ⟨Ma, ia + 1, ls, by omega, dgo_t hra1 hra0 hpa1, rfl, rfl, hP, hS, lv_sub hl [1, 2, 0] rfl, rfl⟩
    · intro j ih7a H locs k sl g hI
      obtain ⟨Ma, ka, ls, hra0, hra1, rfl, rfl, hP, hS, hl, rfl⟩ := hI
      refine lv_iload hx hb dX8_digest_17 (lv_at hl 3 rfl) ?_
      refine lv_bipush (v := 16) hx hb dX8_digest_19 (by decide) ?_
      refine lv_icmp_ge (tgt := 45) hx hb dX8_digest_21 (by decide) (fun c_15 => absurd c_15 (nI_ge (b := 16) (by omega) (by omega))) (fun c_15 => ?_)
      refine lv_ldc2 (v := 31) hx hb hown (htu _ U_267) dX8_digest_24 ?_
      refine lv_lload_n hx hb dX8_digest_27 rfl (lv_at hl 1 rfl) ?_
      refine lv_lmul hx hb dX8_digest_28 ?_
      refine lv_topl (fun f_16 ef_16 => ?_)
      refine lv_aload_n hx hb dX8_digest_29 rfl (lv_at hl 0 rfl) ?_
      refine lv_iload_n hx hb dX8_digest_30 rfl (lv_at hl 2 rfl) ?_
      refine lv_iload hx hb dX8_digest_31 (lv_at hl 3 rfl) ?_
      refine m_ci (m_runV (As := [.int (nI ia), .int (nI ka)]) (rest := [.long f_16]) ⟨hx, hb, hml, hown, htu⟩ (m_told l G hDD o F N (nI ia) (nI ka) h0N hN H.size) (cwV 2 htu gU_X8_told rfl rfl rfl (by decide +kernel) ⟨Nat.le_of_ble_eq_true rfl, Nat.le_of_ble_eq_true rfl⟩) hP hK rfl hl.1 rfl (lv_room (Nat.le_of_ble_eq_true rfl)) dX8_digest_33) hS (fun r_17 o_18 F_19 H locs hw_20 hP hS => ?_)
      try dsimp only at hw_20
      obtain ⟨h91, h92⟩ := Prod.mk.inj hw_20.1
      have h91 := h91.symm
      subst h91
      have h92 := h92.symm
      subst h92
      refine lv_i2l hx hb dX8_digest_36 (v := _) rfl ?_
      refine lv_topl (fun f_21 ef_21 => ?_)
      refine lv_ladd hx hb dX8_digest_37 ?_
      refine lv_topl (fun f_22 ef_22 => ?_)
      refine lv_lstore_n (lv' := [(1, .long f_22), (0, .ref (mh G)), (3, .int (nI ia)), (4, .int (nI ka))]) hx hb dX8_digest_38 rfl hl (by decide) rfl (fun ls hl => ?_)
      refine lv_iinc (v := nI (ka + 1)) (lv' := [(4, .int (nI (ka + 1))), (1, .long f_22), (0, .ref (mh G)), (3, .int (nI ia))]) hx hb dX8_digest_39 hl (k := 3) rfl (nI_1 ka) (by decide) rfl (fun ls hl => ?_)
      refine lv_goto (tgt := 17) hx hb dX8_digest_42 (by decide) ?_
      exact ih7a _ _ _ _ _ ⟨f_22, ka + 1, ls, by omega, dgi_t hra1 ef_16 (told_at hN (show ia < N by omega) (show ka < 16 by omega) hw_20.2) ef_21 ef_22, rfl, rfl, hP, hS, lv_sub hl [2, 1, 3, 0] rfl, rfl⟩

