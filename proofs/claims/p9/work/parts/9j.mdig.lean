theorem dX8_digest_0 : decode cX8_digest 0 = .ok (.ldc2_w 367, 3) := by decide +kernel
theorem dX8_digest_3 : decode cX8_digest 3 = .ok (.lstore_n 1, 1) := by decide +kernel
theorem dX8_digest_4 : decode cX8_digest 4 = .ok (.iconst 0, 1) := by decide +kernel
theorem dX8_digest_5 : decode cX8_digest 5 = .ok (.istore_n 3, 1) := by decide +kernel
theorem dX8_digest_6 : decode cX8_digest 6 = .ok (.iload_n 3, 1) := by decide +kernel
theorem dX8_digest_7 : decode cX8_digest 7 = .ok (.aload_n 0, 1) := by decide +kernel
theorem dX8_digest_8 : decode cX8_digest 8 = .ok (.getfield 137, 3) := by decide +kernel
theorem dX8_digest_11 : decode cX8_digest 11 = .ok (.if_icmp .ge 40, 3) := by decide +kernel
theorem dX8_digest_51 : decode cX8_digest 51 = .ok (.iconst 0, 1) := by decide +kernel
theorem dX8_digest_52 : decode cX8_digest 52 = .ok (.istore_n 3, 1) := by decide +kernel
theorem dX8_digest_53 : decode cX8_digest 53 = .ok (.iload_n 3, 1) := by decide +kernel
theorem dX8_digest_54 : decode cX8_digest 54 = .ok (.aload_n 0, 1) := by decide +kernel
theorem dX8_digest_55 : decode cX8_digest 55 = .ok (.getfield 171, 3) := by decide +kernel
theorem dX8_digest_58 : decode cX8_digest 58 = .ok (.if_icmp .ge 39, 3) := by decide +kernel
theorem dX8_digest_97 : decode cX8_digest 97 = .ok (.lload_n 1, 1) := by decide +kernel
theorem dX8_digest_98 : decode cX8_digest 98 = .ok (.lreturn, 1) := by decide +kernel
theorem dX8_digest_61 : decode cX8_digest 61 = .ok (.iconst 0, 1) := by decide +kernel
theorem dX8_digest_62 : decode cX8_digest 62 = .ok (.istore 4, 2) := by decide +kernel
theorem dX8_digest_64 : decode cX8_digest 64 = .ok (.iload 4, 2) := by decide +kernel
theorem dX8_digest_66 : decode cX8_digest 66 = .ok (.iconst 3, 1) := by decide +kernel
theorem dX8_digest_67 : decode cX8_digest 67 = .ok (.if_icmp .ge 24, 3) := by decide +kernel
theorem dX8_digest_91 : decode cX8_digest 91 = .ok (.iinc 3 1, 3) := by decide +kernel
theorem dX8_digest_94 : decode cX8_digest 94 = .ok (.goto (-41), 3) := by decide +kernel
theorem dX8_digest_70 : decode cX8_digest 70 = .ok (.ldc2_w 369, 3) := by decide +kernel
theorem dX8_digest_73 : decode cX8_digest 73 = .ok (.lload_n 1, 1) := by decide +kernel
theorem dX8_digest_74 : decode cX8_digest 74 = .ok (.lmul, 1) := by decide +kernel
theorem dX8_digest_75 : decode cX8_digest 75 = .ok (.aload_n 0, 1) := by decide +kernel
theorem dX8_digest_76 : decode cX8_digest 76 = .ok (.iload_n 3, 1) := by decide +kernel
theorem dX8_digest_77 : decode cX8_digest 77 = .ok (.iload 4, 2) := by decide +kernel
theorem dX8_digest_79 : decode cX8_digest 79 = .ok (.invokevirtual 374, 3) := by decide +kernel
theorem dX8_digest_82 : decode cX8_digest 82 = .ok (.i2l, 1) := by decide +kernel
theorem dX8_digest_83 : decode cX8_digest 83 = .ok (.ladd, 1) := by decide +kernel
theorem dX8_digest_84 : decode cX8_digest 84 = .ok (.lstore_n 1, 1) := by decide +kernel
theorem dX8_digest_85 : decode cX8_digest 85 = .ok (.iinc 4 1, 3) := by decide +kernel
theorem dX8_digest_88 : decode cX8_digest 88 = .ok (.goto (-24), 3) := by decide +kernel
theorem dX8_digest_14 : decode cX8_digest 14 = .ok (.iconst 0, 1) := by decide +kernel
theorem dX8_digest_15 : decode cX8_digest 15 = .ok (.istore 4, 2) := by decide +kernel
theorem dX8_digest_17 : decode cX8_digest 17 = .ok (.iload 4, 2) := by decide +kernel
theorem dX8_digest_19 : decode cX8_digest 19 = .ok (.bipush 16, 2) := by decide +kernel
theorem dX8_digest_21 : decode cX8_digest 21 = .ok (.if_icmp .ge 24, 3) := by decide +kernel
theorem dX8_digest_45 : decode cX8_digest 45 = .ok (.iinc 3 1, 3) := by decide +kernel
theorem dX8_digest_48 : decode cX8_digest 48 = .ok (.goto (-42), 3) := by decide +kernel
theorem dX8_digest_24 : decode cX8_digest 24 = .ok (.ldc2_w 369, 3) := by decide +kernel
theorem dX8_digest_27 : decode cX8_digest 27 = .ok (.lload_n 1, 1) := by decide +kernel
theorem dX8_digest_28 : decode cX8_digest 28 = .ok (.lmul, 1) := by decide +kernel
theorem dX8_digest_29 : decode cX8_digest 29 = .ok (.aload_n 0, 1) := by decide +kernel
theorem dX8_digest_30 : decode cX8_digest 30 = .ok (.iload_n 3, 1) := by decide +kernel
theorem dX8_digest_31 : decode cX8_digest 31 = .ok (.iload 4, 2) := by decide +kernel
theorem dX8_digest_33 : decode cX8_digest 33 = .ok (.invokevirtual 371, 3) := by decide +kernel
theorem dX8_digest_36 : decode cX8_digest 36 = .ok (.i2l, 1) := by decide +kernel
theorem dX8_digest_37 : decode cX8_digest 37 = .ok (.ladd, 1) := by decide +kernel
theorem dX8_digest_38 : decode cX8_digest 38 = .ok (.lstore_n 1, 1) := by decide +kernel
theorem dX8_digest_39 : decode cX8_digest 39 = .ok (.iinc 4 1, 3) := by decide +kernel
theorem dX8_digest_42 : decode cX8_digest 42 = .ok (.goto (-25), 3) := by decide +kernel
theorem m_lret {p : Program} {l : Launch} {e : Env} {R : Room} {s : State} {m : MethodId} {args : Array Value} {below : List Frame} {meth : Method} {c : Code} {H : Heap} {locs : List Loc} {cc : ByteArray} {pc : Nat} {ls : Array Slot} {G : mG} {o : Nat → Int32} {F : Nat → Nat → Int32} (hx : p.tables.exec = Jvm.exec) (hb : c.code = cc) (hr : meth.sig.returnType = some .long) (hK : mK G s) (hP : mP G o F H) (hS : va_S (mA G s.heap.size) s.heap H locs) {v : Int64} {post : Int64 → mS → Prop} (hpost : post v (o, F)) (hdg : decode cc pc = .ok (.lreturn, 1)) (hlocks : meth.locks = false) :
    W p l e R s m args below meth c H locs 0 0 (MQ below (mQl G s.heap.size post) args s 0 0 (mA G s.heap.size)) (F0 m pc ls [.long v]) :=
  W.lret (v := v) hx hb hr (fun t ht hW => ⟨⟨v, (o, F), rfl, hpost, by show mP G o F t.heap; rw [ht]; exact hP, va_K.moved hW.alike hK⟩, hS.F ht⟩) hS.2.2 hdg hlocks

set_option maxHeartbeats 4000000 in
set_option maxRecDepth 100000 in
/-- digest -/
theorem m_digest (l : Launch) (G : mG) (hDD : mDD G) (o : Nat → Int32) (F : Nat → Nat → Int32) (N : Nat) (z : aS) (ix : Nat → Nat → Nat) (h0N : o 0 = nI N) (hN : N ≤ 120) (hR : MR z ix o F) (sz : Nat) : Met l yX8_digest (wU yX8_digest cX8_digest 5 (some .long)) { frames := 3, cells := 0, slots := 0, locals := 65 } (mPc G o F sz [.ref (mh G)]) (mQl G sz (fun r u => u = (o, F))) 0 0 (mA G sz) := by
  refine Met.ofW (cc := cX8_digest) (maxL := 5) (ret := (some .long)) (by decide) rfl ?_
  intro p e s m args below meth c s₁ B hml hv
  obtain ⟨rfl, hsz, hP, hK⟩ := hv
  have hx := B.exec
  have hb := B.bytes
  have hr := B.returns
  have htu : ∀ w ∈ WU, w.before _ s = true := fun w h => atoms_spec (ws := (wU yX8_digest cX8_digest 5 (some .long))) B.pre w (List.mem_cons_of_mem _ h)
  have hown : s.vm.findClass RX8 = some m.cls := findClass_of_methodNamed B.named
  have hlocks := B.notSynchronized
  subst hsz
  have hS : va_S (mA G s.heap.size) s.heap s.heap [] := va_S.rf
  have hl := lv_entry ([.ref (mh G)]) (n := 5) (Nat.le_of_ble_eq_true rfl)
  rw [lg_entry_eq]
  generalize (lg_sl ([.ref (mh G)]) ++ List.replicate (5 - (lg_sl ([.ref (mh G)])).length) Slot.unset).toArray = ls at hl ⊢
  have hl : lv_has ls 5 [(0, .ref (mh G))] := hl
  obtain ⟨H, hHe⟩ : ∃ H : Heap, H = s.heap := ⟨_, rfl⟩
  rw [← hHe] at hP
  have hS : va_S (mA G s.heap.size) s.heap H [] := by rw [hHe]; exact va_S.rf
  refine W.heq hHe ?_
  obtain ⟨b1, b2, b3, b4, b5, b6, b7, b8⟩ := hR.2.1
  refine lv_ldc2 (v := 17) hx hb hown (htu _ U_266) dX8_digest_0 ?_
  refine lv_lstore_n (lv' := [(1, .long 17), (0, .ref (mh G))]) hx hb dX8_digest_3 rfl hl (by decide) rfl (fun ls hl => ?_)
  refine lv_iconst (v := 0) hx hb dX8_digest_4 (by decide) ?_
  refine lv_istore_n (lv' := [(3, .int 0), (1, .long 17), (0, .ref (mh G))]) hx hb dX8_digest_5 rfl hl (by decide) rfl (fun ls hl => ?_)
  refine w_loop (fun j H locs k sl g => ∃ (hh : Int64) (i : Nat) (ls : Array Slot), i + j = N ∧ k = 0 ∧ sl = 0 ∧ mP G o F H ∧ va_S (mA G s.heap.size) s.heap H locs ∧ lv_has ls 5 [(0, .ref (mh G)), (1, .long hh), (3, .int (nI i))] ∧ g = F0 m 6 ls []) ?_ ?_ N _ _ _ _ _ ⟨17, 0, ls, by omega, rfl, rfl, hP, hS, lv_sub hl [2, 1, 0] rfl, rfl⟩
  · intro H locs k sl g hI
    obtain ⟨hh, i, ls, hp0, rfl, rfl, hP, hS, hl, rfl⟩ := hI
    refine lv_iload_n hx hb dX8_digest_6 rfl (lv_at hl 2 rfl) ?_
    refine lv_aload_n hx hb dX8_digest_7 rfl (lv_at hl 0 rfl) ?_
    refine m_get (v := .int (nI N)) hx hb htu wu_in hown hK hP 0 (by decide) (htu _ U_1) rfl (m_v h0N) dX8_digest_8 ?_
    refine lv_icmp_ge (tgt := 51) hx hb dX8_digest_11 (by decide) (fun c_1 => ?_) (fun c_1 => absurd (nI_le (by omega) (by omega)) c_1)
    refine lv_iconst (v := 0) hx hb dX8_digest_51 (by decide) ?_
    refine lv_istore_n (lv' := [(3, .int 0), (0, .ref (mh G)), (1, .long hh)]) hx hb dX8_digest_52 rfl hl (by decide) rfl (fun ls hl => ?_)
    refine w_loop (fun j H locs k sl g => ∃ (hh : Int64) (i : Nat) (ls : Array Slot), i + j = (nV z) ∧ k = 0 ∧ sl = 0 ∧ mP G o F H ∧ va_S (mA G s.heap.size) s.heap H locs ∧ lv_has ls 5 [(0, .ref (mh G)), (1, .long hh), (3, .int (nI i))] ∧ g = F0 m 53 ls []) ?_ ?_ ((nV z)) _ _ _ _ _ ⟨hh, 0, ls, by omega, rfl, rfl, hP, hS, lv_sub hl [1, 2, 0] rfl, rfl⟩
    · intro H locs k sl g hI
      obtain ⟨hh, i, ls, hp0, rfl, rfl, hP, hS, hl, rfl⟩ := hI
      refine lv_iload_n hx hb dX8_digest_53 rfl (lv_at hl 2 rfl) ?_
      refine lv_aload_n hx hb dX8_digest_54 rfl (lv_at hl 0 rfl) ?_
      refine m_get (v := .int (nI (nV z))) hx hb htu wu_in hown hK hP 14 (by decide) (htu _ U_40) rfl (m_v hR.1.2.1) dX8_digest_55 ?_
      refine lv_icmp_ge (tgt := 97) hx hb dX8_digest_58 (by decide) (fun c_2 => ?_) (fun c_2 => absurd (nI_le (by omega) (by omega)) c_2)
      refine lv_lload_n hx hb dX8_digest_97 rfl (lv_at hl 1 rfl) ?_
      exact m_lret (v := hh) hx hb hr hK hP hS rfl dX8_digest_98 hlocks
    · intro j ih9 H locs k sl g hI
      obtain ⟨hh, i, ls, hp0, rfl, rfl, hP, hS, hl, rfl⟩ := hI
      refine lv_iload_n hx hb dX8_digest_53 rfl (lv_at hl 2 rfl) ?_
      refine lv_aload_n hx hb dX8_digest_54 rfl (lv_at hl 0 rfl) ?_
      refine m_get (v := .int (nI (nV z))) hx hb htu wu_in hown hK hP 14 (by decide) (htu _ U_40) rfl (m_v hR.1.2.1) dX8_digest_55 ?_
      refine lv_icmp_ge (tgt := 97) hx hb dX8_digest_58 (by decide) (fun c_3 => absurd c_3 (nI_ge (by omega) (by omega))) (fun c_3 => ?_)
      refine lv_iconst (v := 0) hx hb dX8_digest_61 (by decide) ?_
      refine lv_istore (lv' := [(4, .int 0), (0, .ref (mh G)), (1, .long hh), (3, .int (nI i))]) hx hb dX8_digest_62 hl (by decide) rfl (fun ls hl => ?_)
      refine w_loop (fun j H locs k sl g => ∃ (h2 : Int64) (k9 : Nat) (ls : Array Slot), k9 + j = 3 ∧ k = 0 ∧ sl = 0 ∧ mP G o F H ∧ va_S (mA G s.heap.size) s.heap H locs ∧ lv_has ls 5 [(0, .ref (mh G)), (1, .long h2), (3, .int (nI i)), (4, .int (nI k9))] ∧ g = F0 m 64 ls []) ?_ ?_ 3 _ _ _ _ _ ⟨hh, 0, ls, by omega, rfl, rfl, hP, hS, lv_sub hl [1, 2, 3, 0] rfl, rfl⟩
      · intro H locs k sl g hI
        obtain ⟨h2, k9, ls, hr0, rfl, rfl, hP, hS, hl, rfl⟩ := hI
        refine lv_iload hx hb dX8_digest_64 (lv_at hl 3 rfl) ?_
        refine lv_iconst (v := 3) hx hb dX8_digest_66 (by decide) ?_
        refine lv_icmp_ge (tgt := 91) hx hb dX8_digest_67 (by decide) (fun c_4 => ?_) (fun c_4 => absurd (nI_le (a := 3) (by omega) (by omega)) c_4)
        refine lv_iinc (v := nI (i + 1)) (lv' := [(3, .int (nI (i + 1))), (0, .ref (mh G)), (1, .long h2), (4, .int (nI k9))]) hx hb dX8_digest_91 hl (k := 2) rfl (nI_1 i) (by decide) rfl (fun ls hl => ?_)
        refine lv_goto (tgt := 53) hx hb dX8_digest_94 (by decide) ?_
        exact ih9 _ _ _ _ _ ⟨h2, i + 1, ls, by omega, rfl, rfl, hP, hS, lv_sub hl [1, 2, 0] rfl, rfl⟩
      · intro j ih7 H locs k sl g hI
        obtain ⟨h2, k9, ls, hr0, rfl, rfl, hP, hS, hl, rfl⟩ := hI
        refine lv_iload hx hb dX8_digest_64 (lv_at hl 3 rfl) ?_
        refine lv_iconst (v := 3) hx hb dX8_digest_66 (by decide) ?_
        refine lv_icmp_ge (tgt := 91) hx hb dX8_digest_67 (by decide) (fun c_5 => absurd c_5 (nI_ge (b := 3) (by omega) (by omega))) (fun c_5 => ?_)
        refine lv_ldc2 (v := 31) hx hb hown (htu _ U_267) dX8_digest_70 ?_
        refine lv_lload_n hx hb dX8_digest_73 rfl (lv_at hl 1 rfl) ?_
        refine lv_lmul hx hb dX8_digest_74 ?_
        refine lv_topl (fun f_6 ef_6 => ?_)
        refine lv_aload_n hx hb dX8_digest_75 rfl (lv_at hl 0 rfl) ?_
        refine lv_iload_n hx hb dX8_digest_76 rfl (lv_at hl 2 rfl) ?_
        refine lv_iload hx hb dX8_digest_77 (lv_at hl 3 rfl) ?_
        refine m_ci (m_runV (As := [.int (nI i), .int (nI k9)]) (rest := [.long f_6]) ⟨hx, hb, hml, hown, htu⟩ (m_variable l G hDD o F z ix (nI i) (nI k9) hR H.size) (cwV 2 htu gU_X8_variable rfl rfl rfl (by decide +kernel) ⟨Nat.le_of_ble_eq_true rfl, Nat.le_of_ble_eq_true rfl⟩) hP hK rfl hl.1 rfl (lv_room (Nat.le_of_ble_eq_true rfl)) dX8_digest_79) hS (fun r_7 o_8 F_9 H locs hw_10 hP hS => ?_)
        try dsimp only at hw_10
        obtain ⟨h91, h92⟩ := Prod.mk.inj hw_10.1
        have h91 := h91.symm
        subst h91
        have h92 := h92.symm
        subst h92
        refine lv_i2l hx hb dX8_digest_82 (v := _) rfl ?_
        refine lv_topl (fun f_11 ef_11 => ?_)
        refine lv_ladd hx hb dX8_digest_83 ?_
        refine lv_topl (fun f_12 ef_12 => ?_)
        refine lv_lstore_n (lv' := [(1, .long f_12), (0, .ref (mh G)), (3, .int (nI i)), (4, .int (nI k9))]) hx hb dX8_digest_84 rfl hl (by decide) rfl (fun ls hl => ?_)
        refine lv_iinc (v := nI (k9 + 1)) (lv' := [(4, .int (nI (k9 + 1))), (1, .long f_12), (0, .ref (mh G)), (3, .int (nI i))]) hx hb dX8_digest_85 hl (k := 3) rfl (nI_1 k9) (by decide) rfl (fun ls hl => ?_)
        refine lv_goto (tgt := 64) hx hb dX8_digest_88 (by decide) ?_
        exact ih7 _ _ _ _ _ ⟨f_12, k9 + 1, ls, by omega, rfl, rfl, hP, hS, lv_sub hl [2, 1, 3, 0] rfl, rfl⟩
  · intro j ih9 H locs k sl g hI
    obtain ⟨hh, i, ls, hp0, rfl, rfl, hP, hS, hl, rfl⟩ := hI
    refine lv_iload_n hx hb dX8_digest_6 rfl (lv_at hl 2 rfl) ?_
    refine lv_aload_n hx hb dX8_digest_7 rfl (lv_at hl 0 rfl) ?_
    refine m_get (v := .int (nI N)) hx hb htu wu_in hown hK hP 0 (by decide) (htu _ U_1) rfl (m_v h0N) dX8_digest_8 ?_
    refine lv_icmp_ge (tgt := 51) hx hb dX8_digest_11 (by decide) (fun c_13 => absurd c_13 (nI_ge (by omega) (by omega))) (fun c_13 => ?_)
    refine lv_iconst (v := 0) hx hb dX8_digest_14 (by decide) ?_
    refine lv_istore (lv' := [(4, .int 0), (0, .ref (mh G)), (1, .long hh), (3, .int (nI i))]) hx hb dX8_digest_15 hl (by decide) rfl (fun ls hl => ?_)
    refine w_loop (fun j H locs k sl g => ∃ (h2 : Int64) (k9 : Nat) (ls : Array Slot), k9 + j = 16 ∧ k = 0 ∧ sl = 0 ∧ mP G o F H ∧ va_S (mA G s.heap.size) s.heap H locs ∧ lv_has ls 5 [(0, .ref (mh G)), (1, .long h2), (3, .int (nI i)), (4, .int (nI k9))] ∧ g = F0 m 17 ls []) ?_ ?_ 16 _ _ _ _ _ ⟨hh, 0, ls, by omega, rfl, rfl, hP, hS, lv_sub hl [1, 2, 3, 0] rfl, rfl⟩
    · intro H locs k sl g hI
      obtain ⟨h2, k9, ls, hr0, rfl, rfl, hP, hS, hl, rfl⟩ := hI
      refine lv_iload hx hb dX8_digest_17 (lv_at hl 3 rfl) ?_
      refine lv_bipush (v := 16) hx hb dX8_digest_19 (by decide) ?_
      refine lv_icmp_ge (tgt := 45) hx hb dX8_digest_21 (by decide) (fun c_14 => ?_) (fun c_14 => absurd (nI_le (a := 16) (by omega) (by omega)) c_14)
      refine lv_iinc (v := nI (i + 1)) (lv' := [(3, .int (nI (i + 1))), (0, .ref (mh G)), (1, .long h2), (4, .int (nI k9))]) hx hb dX8_digest_45 hl (k := 2) rfl (nI_1 i) (by decide) rfl (fun ls hl => ?_)
      refine lv_goto (tgt := 6) hx hb dX8_digest_48 (by decide) ?_
      exact ih9 _ _ _ _ _ ⟨h2, i + 1, ls, by omega, rfl, rfl, hP, hS, lv_sub hl [1, 2, 0] rfl, rfl⟩
    · intro j ih7 H locs k sl g hI
      obtain ⟨h2, k9, ls, hr0, rfl, rfl, hP, hS, hl, rfl⟩ := hI
      refine lv_iload hx hb dX8_digest_17 (lv_at hl 3 rfl) ?_
      refine lv_bipush (v := 16) hx hb dX8_digest_19 (by decide) ?_
      refine lv_icmp_ge (tgt := 45) hx hb dX8_digest_21 (by decide) (fun c_15 => absurd c_15 (nI_ge (b := 16) (by omega) (by omega))) (fun c_15 => ?_)
      refine lv_ldc2 (v := 31) hx hb hown (htu _ U_267) dX8_digest_24 ?_
      refine lv_lload_n hx hb dX8_digest_27 rfl (lv_at hl 1 rfl) ?_
      refine lv_lmul hx hb dX8_digest_28 ?_
      refine lv_topl (fun f_16 ef_16 => ?_)
      refine lv_aload_n hx hb dX8_digest_29 rfl (lv_at hl 0 rfl) ?_
      refine lv_iload_n hx hb dX8_digest_30 rfl (lv_at hl 2 rfl) ?_
      refine lv_iload hx hb dX8_digest_31 (lv_at hl 3 rfl) ?_
      refine m_ci (m_runV (As := [.int (nI i), .int (nI k9)]) (rest := [.long f_16]) ⟨hx, hb, hml, hown, htu⟩ (m_told l G hDD o F N (nI i) (nI k9) h0N hN H.size) (cwV 2 htu gU_X8_told rfl rfl rfl (by decide +kernel) ⟨Nat.le_of_ble_eq_true rfl, Nat.le_of_ble_eq_true rfl⟩) hP hK rfl hl.1 rfl (lv_room (Nat.le_of_ble_eq_true rfl)) dX8_digest_33) hS (fun r_17 o_18 F_19 H locs hw_20 hP hS => ?_)
      try dsimp only at hw_20
      obtain ⟨h91, h92⟩ := Prod.mk.inj hw_20.1
      have h91 := h91.symm
      subst h91
      have h92 := h92.symm
      subst h92
      refine lv_i2l hx hb dX8_digest_36 (v := _) rfl ?_
      refine lv_topl (fun f_21 ef_21 => ?_)
      refine lv_ladd hx hb dX8_digest_37 ?_
      refine lv_topl (fun f_22 ef_22 => ?_)
      refine lv_lstore_n (lv' := [(1, .long f_22), (0, .ref (mh G)), (3, .int (nI i)), (4, .int (nI k9))]) hx hb dX8_digest_38 rfl hl (by decide) rfl (fun ls hl => ?_)
      refine lv_iinc (v := nI (k9 + 1)) (lv' := [(4, .int (nI (k9 + 1))), (1, .long f_22), (0, .ref (mh G)), (3, .int (nI i))]) hx hb dX8_digest_39 hl (k := 3) rfl (nI_1 k9) (by decide) rfl (fun ls hl => ?_)
      refine lv_goto (tgt := 17) hx hb dX8_digest_42 (by decide) ?_
      exact ih7 _ _ _ _ _ ⟨f_22, k9 + 1, ls, by omega, rfl, rfl, hP, hS, lv_sub hl [2, 1, 3, 0] rfl, rfl⟩

