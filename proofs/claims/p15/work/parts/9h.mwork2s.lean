theorem dX8_seen_0 : decode cX8_seen 0 = .ok (.iload_n 2, 1) := by decide +kernel
theorem dX8_seen_1 : decode cX8_seen 1 = .ok (.istore_n 3, 1) := by decide +kernel
theorem dX8_seen_2 : decode cX8_seen 2 = .ok (.iload_n 3, 1) := by decide +kernel
theorem dX8_seen_3 : decode cX8_seen 3 = .ok (.bipush (-9), 2) := by decide +kernel
theorem dX8_seen_5 : decode cX8_seen 5 = .ok (.if_icmp .eq 28, 3) := by decide +kernel
theorem dX8_seen_33 : decode cX8_seen 33 = .ok (.iload_n 3, 1) := by decide +kernel
theorem dX8_seen_34 : decode cX8_seen 34 = .ok (.bipush (-9), 2) := by decide +kernel
theorem dX8_seen_36 : decode cX8_seen 36 = .ok (.if_icmp .ne 10, 3) := by decide +kernel
theorem dX8_seen_39 : decode cX8_seen 39 = .ok (.aload_n 0, 1) := by decide +kernel
theorem dX8_seen_40 : decode cX8_seen 40 = .ok (.iconst 1, 1) := by decide +kernel
theorem dX8_seen_41 : decode cX8_seen 41 = .ok (.iload_n 1, 1) := by decide +kernel
theorem dX8_seen_42 : decode cX8_seen 42 = .ok (.invokevirtual 343, 3) := by decide +kernel
theorem dX8_seen_45 : decode cX8_seen 45 = .ok (.ireturn, 1) := by decide +kernel
theorem dX8_seen_8 : decode cX8_seen 8 = .ok (.aload_n 0, 1) := by decide +kernel
theorem dX8_seen_9 : decode cX8_seen 9 = .ok (.getfield 115, 3) := by decide +kernel
theorem dX8_seen_12 : decode cX8_seen 12 = .ok (.iload_n 3, 1) := by decide +kernel
theorem dX8_seen_13 : decode cX8_seen 13 = .ok (.iaload, 1) := by decide +kernel
theorem dX8_seen_14 : decode cX8_seen 14 = .ok (.aload_n 0, 1) := by decide +kernel
theorem dX8_seen_15 : decode cX8_seen 15 = .ok (.getfield 13, 3) := by decide +kernel
theorem dX8_seen_18 : decode cX8_seen 18 = .ok (.iload_n 1, 1) := by decide +kernel
theorem dX8_seen_19 : decode cX8_seen 19 = .ok (.iaload, 1) := by decide +kernel
theorem dX8_seen_20 : decode cX8_seen 20 = .ok (.if_icmp .eq 13, 3) := by decide +kernel
theorem dX8_seen_46 : decode cX8_seen 46 = .ok (.aload_n 0, 1) := by decide +kernel
theorem dX8_seen_47 : decode cX8_seen 47 = .ok (.getfield 121, 3) := by decide +kernel
theorem dX8_seen_50 : decode cX8_seen 50 = .ok (.iload_n 3, 1) := by decide +kernel
theorem dX8_seen_51 : decode cX8_seen 51 = .ok (.iaload, 1) := by decide +kernel
theorem dX8_seen_52 : decode cX8_seen 52 = .ok (.bipush (-9), 2) := by decide +kernel
theorem dX8_seen_54 : decode cX8_seen 54 = .ok (.if_icmp .ne 12, 3) := by decide +kernel
theorem dX8_seen_66 : decode cX8_seen 66 = .ok (.aload_n 0, 1) := by decide +kernel
theorem dX8_seen_67 : decode cX8_seen 67 = .ok (.aload_n 0, 1) := by decide +kernel
theorem dX8_seen_68 : decode cX8_seen 68 = .ok (.getfield 19, 3) := by decide +kernel
theorem dX8_seen_71 : decode cX8_seen 71 = .ok (.bipush 6, 2) := by decide +kernel
theorem dX8_seen_73 : decode cX8_seen 73 = .ok (.aload_n 0, 1) := by decide +kernel
theorem dX8_seen_74 : decode cX8_seen 74 = .ok (.getfield 121, 3) := by decide +kernel
theorem dX8_seen_77 : decode cX8_seen 77 = .ok (.iload_n 3, 1) := by decide +kernel
theorem dX8_seen_78 : decode cX8_seen 78 = .ok (.iaload, 1) := by decide +kernel
theorem dX8_seen_79 : decode cX8_seen 79 = .ok (.imul, 1) := by decide +kernel
theorem dX8_seen_80 : decode cX8_seen 80 = .ok (.iaload, 1) := by decide +kernel
theorem dX8_seen_81 : decode cX8_seen 81 = .ok (.iload_n 3, 1) := by decide +kernel
theorem dX8_seen_82 : decode cX8_seen 82 = .ok (.invokevirtual 355, 3) := by decide +kernel
theorem dX8_seen_85 : decode cX8_seen 85 = .ok (.ireturn, 1) := by decide +kernel
theorem dX8_seen_57 : decode cX8_seen 57 = .ok (.aload_n 0, 1) := by decide +kernel
theorem dX8_seen_58 : decode cX8_seen 58 = .ok (.getfield 118, 3) := by decide +kernel
theorem dX8_seen_61 : decode cX8_seen 61 = .ok (.iload_n 3, 1) := by decide +kernel
theorem dX8_seen_62 : decode cX8_seen 62 = .ok (.iaload, 1) := by decide +kernel
theorem dX8_seen_63 : decode cX8_seen 63 = .ok (.goto 22, 3) := by decide +kernel
theorem dX8_seen_23 : decode cX8_seen 23 = .ok (.aload_n 0, 1) := by decide +kernel
theorem dX8_seen_24 : decode cX8_seen 24 = .ok (.getfield 124, 3) := by decide +kernel
theorem dX8_seen_27 : decode cX8_seen 27 = .ok (.iload_n 3, 1) := by decide +kernel
theorem dX8_seen_28 : decode cX8_seen 28 = .ok (.iaload, 1) := by decide +kernel
theorem dX8_seen_29 : decode cX8_seen 29 = .ok (.istore_n 3, 1) := by decide +kernel
theorem dX8_seen_30 : decode cX8_seen 30 = .ok (.goto (-28), 3) := by decide +kernel
set_option maxHeartbeats 4000000 in
set_option maxRecDepth 100000 in
/-- seen -/
theorem m_seen (l : Launch) (G : mG) (hDD : mDD G) (o : Nat → Int32) (F : Nat → Nat → Int32) (fu : Nat) (tr : aM) (N : Nat) (gd : Nat → Prop) (vs : Nat) (es : Nat) (wk : Nat) (ms : Nat) (n : Nat) (ev : Int32) (ih : mDoesAt fu) (hT : TRm tr N o F) (hW : WS tr N gd vs es wk ms o F) (hvs : vs ≤ wk) (hes : es ≤ wk) (hn : n < N) (he : EO es ev) (hd : o 64 = nI (60 - fu)) (hfu : fu ≤ 60) (sz : Nat) : Met l yX8_seen (wU yX8_seen cX8_seen 4 (some .int)) { frames := 3 * fu + 4, cells := 0, slots := 0, locals := 80 * fu + 123 } (mPc G o F sz [.ref (mh G), .int (nI n), .int ev]) (mQi G sz (fun r u => WQ tr N gd vs es wk ms 0 o F r u)) 0 0 (mA G sz) := by
  refine Met.ofW (cc := cX8_seen) (maxL := 4) (ret := (some .int)) (by decide) rfl ?_
  intro p e s m args below meth c s₁ B hml hv
  obtain ⟨rfl, hsz, hP, hK⟩ := hv
  have hx := B.exec
  have hb := B.bytes
  have hr := B.returns
  have htu : ∀ w ∈ WU, w.before _ s = true := fun w h => atoms_spec (ws := (wU yX8_seen cX8_seen 4 (some .int))) B.pre w (List.mem_cons_of_mem _ h)
  have hown : s.vm.findClass RX8 = some m.cls := findClass_of_methodNamed B.named
  have hlocks := B.notSynchronized
  subst hsz
  have hS : va_S (mA G s.heap.size) s.heap s.heap [] := va_S.rf
  have hl := lv_entry ([.ref (mh G), .int (nI n), .int ev]) (n := 4) (Nat.le_of_ble_eq_true rfl)
  rw [lg_entry_eq]
  generalize (lg_sl ([.ref (mh G), .int (nI n), .int ev]) ++ List.replicate (4 - (lg_sl ([.ref (mh G), .int (nI n), .int ev])).length) Slot.unset).toArray = ls at hl ⊢
  have hl : lv_has ls 4 [(0, .ref (mh G)), (1, .int (nI n)), (2, .int ev)] := hl
  obtain ⟨H, hHe⟩ : ∃ H : Heap, H = s.heap := ⟨_, rfl⟩
  rw [← hHe] at hP
  have hS : va_S (mA G s.heap.size) s.heap H [] := by rw [hHe]; exact va_S.rf
  refine W.heq hHe ?_
  have hN := hT.2.1
  obtain ⟨a1_, a2_, a3_, a4_, a5_, a6_⟩ := hW.1
  refine lv_iload_n hx hb dX8_seen_0 rfl (lv_at hl 2 rfl) ?_
  refine lv_istore_n (lv' := [(3, .int ev), (0, .ref (mh G)), (1, .int (nI n)), (2, .int ev)]) hx hb dX8_seen_1 rfl hl (by decide) rfl (fun ls hl => ?_)
  refine w_loop (fun j H locs k sl g => ∃ (kv : Int32) (ls : Array Slot), (kv = -9 ∨ ∃ q, q < es ∧ kv = nI q ∧ q + 1 ≤ j) ∧ k = 0 ∧ sl = 0 ∧ mP G o F H ∧ va_S (mA G s.heap.size) s.heap H locs ∧ lv_has ls 4 [(0, .ref (mh G)), (1, .int (nI n)), (2, .int ev), (3, .int kv)] ∧ g = F0 m 2 ls []) ?_ ?_ ((es + 1)) _ _ _ _ _ ⟨ev, ls, (he.imp id (fun ⟨q, h1, h2⟩ => ⟨q, h1, h2, by omega⟩)), rfl, rfl, hP, hS, lv_sub hl [1, 2, 3, 0] rfl, rfl⟩
  · intro H locs k sl g hI
    obtain ⟨kv, ls, hp0, rfl, rfl, hP, hS, hl, rfl⟩ := hI
    have hk9 : kv = -9 := by rcases hp0 with h | ⟨q, h1, h2, h3⟩; exact h; omega
    refine lv_iload_n hx hb dX8_seen_2 rfl (lv_at hl 3 rfl) ?_
    refine lv_bipush (v := (-9)) hx hb dX8_seen_3 (by decide) ?_
    refine lv_icmp_eq (tgt := 33) hx hb dX8_seen_5 (by decide) (fun c_1 => ?_) (fun c_1 => absurd hk9 c_1)
    refine lv_iload_n hx hb dX8_seen_33 rfl (lv_at hl 3 rfl) ?_
    refine lv_bipush (v := (-9)) hx hb dX8_seen_34 (by decide) ?_
    refine lv_icmp_ne (tgt := 46) hx hb dX8_seen_36 (by decide) (fun c_2 => absurd hk9 c_2) (fun c_2 => ?_)
    refine lv_aload_n hx hb dX8_seen_39 rfl (lv_at hl 0 rfl) ?_
    refine lv_iconst (v := 1) hx hb dX8_seen_40 (by decide) ?_
    refine lv_iload_n hx hb dX8_seen_41 rfl (lv_at hl 1 rfl) ?_
    refine m_ci (m_runV (As := [.int 1, .int (nI n)]) (rest := []) ⟨hx, hb, hml, hown, htu⟩ (m_halts l G hDD o F 1 (nI n) H.size) (cwV 2 htu gU_X8_halts rfl rfl rfl (by decide +kernel) ⟨show 0 + 1 ≤ 3 * fu + 4 by omega, show 8 + (3 + 11) + 0 ≤ 80 * fu + 123 by omega⟩) hP hK rfl hl.1 rfl (lv_room (Nat.le_of_ble_eq_true rfl)) dX8_seen_42) hS (fun r_3 o_4 F_5 H locs hw_6 hP hS => ?_)
    try dsimp only at hw_6
    obtain ⟨m_7K, m_7z⟩ := (WK.rf hW).halt (by decide) hw_6.2
    exact m_iret (v := r_3) hx hb hr hK hP hS ⟨_, _, _, _, _, _, by omega, by omega, m_7K, (fun h => absurd m_7z h)⟩ dX8_seen_45 hlocks
  · intro j ih9 H locs k sl g hI
    obtain ⟨kv, ls, hp0, rfl, rfl, hP, hS, hl, rfl⟩ := hI
    rcases hp0 with hk9 | ⟨q, h1, h2, h3⟩
    · skip
      refine lv_iload_n hx hb dX8_seen_2 rfl (lv_at hl 3 rfl) ?_
      refine lv_bipush (v := (-9)) hx hb dX8_seen_3 (by decide) ?_
      refine lv_icmp_eq (tgt := 33) hx hb dX8_seen_5 (by decide) (fun c_8 => ?_) (fun c_8 => absurd hk9 c_8)
      refine lv_iload_n hx hb dX8_seen_33 rfl (lv_at hl 3 rfl) ?_
      refine lv_bipush (v := (-9)) hx hb dX8_seen_34 (by decide) ?_
      refine lv_icmp_ne (tgt := 46) hx hb dX8_seen_36 (by decide) (fun c_9 => absurd hk9 c_9) (fun c_9 => ?_)
      refine lv_aload_n hx hb dX8_seen_39 rfl (lv_at hl 0 rfl) ?_
      refine lv_iconst (v := 1) hx hb dX8_seen_40 (by decide) ?_
      refine lv_iload_n hx hb dX8_seen_41 rfl (lv_at hl 1 rfl) ?_
      refine m_ci (m_runV (As := [.int 1, .int (nI n)]) (rest := []) ⟨hx, hb, hml, hown, htu⟩ (m_halts l G hDD o F 1 (nI n) H.size) (cwV 2 htu gU_X8_halts rfl rfl rfl (by decide +kernel) ⟨show 0 + 1 ≤ 3 * fu + 4 by omega, show 8 + (3 + 11) + 0 ≤ 80 * fu + 123 by omega⟩) hP hK rfl hl.1 rfl (lv_room (Nat.le_of_ble_eq_true rfl)) dX8_seen_42) hS (fun r_10 o_11 F_12 H locs hw_13 hP hS => ?_)
      try dsimp only at hw_13
      obtain ⟨m_14K, m_14z⟩ := (WK.rf hW).halt (by decide) hw_13.2
      exact m_iret (v := r_10) hx hb hr hK hP hS ⟨_, _, _, _, _, _, by omega, by omega, m_14K, (fun h => absurd m_14z h)⟩ dX8_seen_45 hlocks
    · skip
      subst h2
      obtain ⟨k1_, k2_⟩ := hW.2.2.2 q h1
      refine lv_iload_n hx hb dX8_seen_2 rfl (lv_at hl 3 rfl) ?_
      refine lv_bipush (v := (-9)) hx hb dX8_seen_3 (by decide) ?_
      refine lv_icmp_eq (tgt := 33) hx hb dX8_seen_5 (by decide) (fun c_15 => absurd c_15 (nI_neg (by decide) (by omega))) (fun c_15 => ?_)
      refine lv_aload_n hx hb dX8_seen_8 rfl (lv_at hl 0 rfl) ?_
      refine m_get (v := .ref (md G 57)) hx hb htu wu_in hown hK hP 57 (by decide) (htu _ U_252) rfl rfl dX8_seen_9 ?_
      refine lv_iload_n hx hb dX8_seen_12 rfl (lv_at hl 3 rfl) ?_
      refine m_ald (j := q) (v := F 57 q) hx hb hK hP 35 57 rfl (by omega) (by decide) rfl dX8_seen_13 ?_
      refine lv_aload_n hx hb dX8_seen_14 rfl (lv_at hl 0 rfl) ?_
      refine m_get (v := .ref (md G 2)) hx hb htu wu_in hown hK hP 2 (by decide) (htu _ U_3) rfl rfl dX8_seen_15 ?_
      refine lv_iload_n hx hb dX8_seen_18 rfl (lv_at hl 1 rfl) ?_
      refine m_ald (j := n) (v := F 2 n) hx hb hK hP 2 2 rfl (by omega) (by decide) rfl dX8_seen_19 ?_
      refine lv_icmp_eq (tgt := 33) hx hb dX8_seen_20 (by decide) (fun c_16 => ?_) (fun c_16 => ?_)
      · skip
        refine lv_iload_n hx hb dX8_seen_33 rfl (lv_at hl 3 rfl) ?_
        refine lv_bipush (v := (-9)) hx hb dX8_seen_34 (by decide) ?_
        refine lv_icmp_ne (tgt := 46) hx hb dX8_seen_36 (by decide) (fun c_17 => ?_) (fun c_17 => absurd c_17 (nI_neg (by decide) (by omega)))
        refine lv_aload_n hx hb dX8_seen_46 rfl (lv_at hl 0 rfl) ?_
        refine m_get (v := .ref (md G 59)) hx hb htu wu_in hown hK hP 59 (by decide) (htu _ U_254) rfl rfl dX8_seen_47 ?_
        refine lv_iload_n hx hb dX8_seen_50 rfl (lv_at hl 3 rfl) ?_
        refine m_ald (j := q) (v := F 59 q) hx hb hK hP 37 59 rfl (by omega) (by decide) rfl dX8_seen_51 ?_
        refine lv_bipush (v := (-9)) hx hb dX8_seen_52 (by decide) ?_
        refine lv_icmp_ne (tgt := 66) hx hb dX8_seen_54 (by decide) (fun c_18 => ?_) (fun c_18 => ?_)
        · skip
          obtain ⟨m9, m1_, m2_, m3_⟩ := k2_.resolve_left (fun h => c_18 h.1)
          have tm := (hT.2.2 m9 m1_).2.2.2.2.2.2.1
          rw [m2_] at tm
          obtain ⟨tm0, tm1, -⟩ := tm 0 (show 0 < 2 by decide)
          have tm2 : tr 10 m9 < N := tm1
          refine lv_aload_n hx hb dX8_seen_66 rfl (lv_at hl 0 rfl) ?_
          refine lv_aload_n hx hb dX8_seen_67 rfl (lv_at hl 0 rfl) ?_
          refine m_get (v := .ref (md G 4)) hx hb htu wu_in hown hK hP 4 (by decide) (htu _ U_6) rfl rfl dX8_seen_68 ?_
          refine lv_bipush (v := 6) hx hb dX8_seen_71 (by decide) ?_
          refine lv_aload_n hx hb dX8_seen_73 rfl (lv_at hl 0 rfl) ?_
          refine m_get (v := .ref (md G 59)) hx hb htu wu_in hown hK hP 59 (by decide) (htu _ U_254) rfl rfl dX8_seen_74 ?_
          refine lv_iload_n hx hb dX8_seen_77 rfl (lv_at hl 3 rfl) ?_
          refine m_ald (j := q) (v := nI m9) hx hb hK hP 37 59 rfl (by omega) (by decide) m3_ dX8_seen_78 ?_
          refine lv_imul hx hb dX8_seen_79 ?_
          refine m_top (y := nI (6 * m9)) (pk_mul 6 m9) ?_
          refine m_ald (j := 6 * m9) (v := nI (tr 10 m9)) hx hb hK hP 4 4 rfl (by omega) (by decide) tm0 dX8_seen_80 ?_
          refine lv_iload_n hx hb dX8_seen_81 rfl (lv_at hl 3 rfl) ?_
          refine m_ci (m_runV (As := [.int (nI (tr 10 m9)), .int (nI q)]) (rest := []) ⟨hx, hb, hml, hown, htu⟩ (ih l G hDD o F tr N gd vs es (wk + (0)) ms (tr 10 m9) ((nI q)) ((hT.keep (u := (o, F)) (fun k hk => (WK.rf hW).2.2.2.2.2.2.2.2.1 k (LW7 hk)))) ((WK.rf hW).2.2.2.2.2.1) ((by omega)) ((by omega)) tm2 ((Or.inr ⟨q, h1, rfl⟩)) ((((WK.rf hW).2.2.2.2.2.2.1).trans hd)) ((by omega)) H.size) (cwV 2 htu gU_X8_does rfl rfl rfl (by decide +kernel) ⟨show (3 * fu + 3) + 1 ≤ 3 * fu + 4 by omega, show 8 + (4 + 11) + (80 * fu + 100) ≤ 80 * fu + 123 by omega⟩) hP hK rfl hl.1 rfl (lv_room (Nat.le_of_ble_eq_true rfl)) dX8_seen_82) hS (fun r_19 o_20 F_21 H locs hw_22 hP hS => ?_)
          try dsimp only at hw_22
          obtain ⟨m_23gd, m_23vs, m_23es, m_23d, m_23cv, m_23ce, m_23c1, m_23c2, m_23W, m_23r⟩ := hw_22
          obtain rfl : m_23cv = 0 := by omega
          obtain rfl : m_23ce = 0 := by omega
          have m_23K := (WK.rf hW).tr m_23W
          obtain ⟨-, m_23x1, m_23x2, m_23x3, m_23x4, -⟩ := id m_23W
          obtain ⟨m_23y1, m_23y2⟩ := m_23W.2.2.2.2.2.1.1.2.2.2.2
          exact m_iret (v := r_19) hx hb hr hK hP hS ⟨_, _, _, _, _, _, by omega, by omega, m_23K, m_23r⟩ dX8_seen_85 hlocks
        · skip
          obtain ⟨k3_, w9, k4_, k5_⟩ := k2_.resolve_right (fun ⟨m9, q1, q2, q3⟩ => absurd (c_18.symm.trans q3).symm (nI_neg (by decide) (by omega)))
          refine lv_aload_n hx hb dX8_seen_57 rfl (lv_at hl 0 rfl) ?_
          refine m_get (v := .ref (md G 58)) hx hb htu wu_in hown hK hP 58 (by decide) (htu _ U_253) rfl rfl dX8_seen_58 ?_
          refine lv_iload_n hx hb dX8_seen_61 rfl (lv_at hl 3 rfl) ?_
          refine m_ald (j := q) (v := F 58 q) hx hb hK hP 36 58 rfl (by omega) (by decide) rfl dX8_seen_62 ?_
          refine lv_goto (tgt := 85) hx hb dX8_seen_63 (by decide) ?_
          exact m_iret (v := F 58 q) hx hb hr hK hP hS ⟨_, _, _, _, _, _, by omega, by omega, (WK.rf hW), (fun _ => ⟨w9, k4_, k5_⟩)⟩ dX8_seen_85 hlocks
      · skip
        refine lv_aload_n hx hb dX8_seen_23 rfl (lv_at hl 0 rfl) ?_
        refine m_get (v := .ref (md G 60)) hx hb htu wu_in hown hK hP 60 (by decide) (htu _ U_255) rfl rfl dX8_seen_24 ?_
        refine lv_iload_n hx hb dX8_seen_27 rfl (lv_at hl 3 rfl) ?_
        refine m_ald (j := q) (v := F 60 q) hx hb hK hP 38 60 rfl (by omega) (by decide) rfl dX8_seen_28 ?_
        refine lv_istore_n (lv' := [(3, .int (F 60 q)), (0, .ref (mh G)), (1, .int (nI n)), (2, .int ev)]) hx hb dX8_seen_29 rfl hl (by decide) rfl (fun ls hl => ?_)
        refine lv_goto (tgt := 2) hx hb dX8_seen_30 (by decide) ?_
        have hnx : (F 60 q = -9 ∨ ∃ q2, q2 < es ∧ F 60 q = nI q2 ∧ q2 + 1 ≤ j) := k1_.imp id (fun ⟨j2, z1, z2⟩ => ⟨j2, by omega, z2, by omega⟩)
        exact ih9 _ _ _ _ _ ⟨(F 60 q), ls, hnx, rfl, rfl, hP, hS, lv_sub hl [1, 2, 3, 0] rfl, rfl⟩

