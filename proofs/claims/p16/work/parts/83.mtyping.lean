theorem dX8_binderOf_0 : decode cX8_binderOf 0 = .ok (.iload_n 1, 1) := by decide +kernel
theorem dX8_binderOf_1 : decode cX8_binderOf 1 = .ok (.istore_n 3, 1) := by decide +kernel
theorem dX8_binderOf_2 : decode cX8_binderOf 2 = .ok (.iload_n 3, 1) := by decide +kernel
theorem dX8_binderOf_3 : decode cX8_binderOf 3 = .ok (.aload_n 0, 1) := by decide +kernel
theorem dX8_binderOf_4 : decode cX8_binderOf 4 = .ok (.getfield 269, 3) := by decide +kernel
theorem dX8_binderOf_7 : decode cX8_binderOf 7 = .ok (.if_icmp .eq 88, 3) := by decide +kernel
theorem dX8_binderOf_95 : decode cX8_binderOf 95 = .ok (.bipush (-9), 2) := by decide +kernel
theorem dX8_binderOf_97 : decode cX8_binderOf 97 = .ok (.ireturn, 1) := by decide +kernel
theorem dX8_binderOf_10 : decode cX8_binderOf 10 = .ok (.aload_n 0, 1) := by decide +kernel
theorem dX8_binderOf_11 : decode cX8_binderOf 11 = .ok (.getfield 25, 3) := by decide +kernel
theorem dX8_binderOf_14 : decode cX8_binderOf 14 = .ok (.iload_n 3, 1) := by decide +kernel
theorem dX8_binderOf_15 : decode cX8_binderOf 15 = .ok (.iaload, 1) := by decide +kernel
theorem dX8_binderOf_16 : decode cX8_binderOf 16 = .ok (.istore 4, 2) := by decide +kernel
theorem dX8_binderOf_18 : decode cX8_binderOf 18 = .ok (.aload_n 0, 1) := by decide +kernel
theorem dX8_binderOf_19 : decode cX8_binderOf 19 = .ok (.getfield 7, 3) := by decide +kernel
theorem dX8_binderOf_22 : decode cX8_binderOf 22 = .ok (.iload 4, 2) := by decide +kernel
theorem dX8_binderOf_24 : decode cX8_binderOf 24 = .ok (.iaload, 1) := by decide +kernel
theorem dX8_binderOf_25 : decode cX8_binderOf 25 = .ok (.istore 5, 2) := by decide +kernel
theorem dX8_binderOf_27 : decode cX8_binderOf 27 = .ok (.aload_n 0, 1) := by decide +kernel
theorem dX8_binderOf_28 : decode cX8_binderOf 28 = .ok (.getfield 19, 3) := by decide +kernel
theorem dX8_binderOf_31 : decode cX8_binderOf 31 = .ok (.bipush 6, 2) := by decide +kernel
theorem dX8_binderOf_33 : decode cX8_binderOf 33 = .ok (.iload 4, 2) := by decide +kernel
theorem dX8_binderOf_35 : decode cX8_binderOf 35 = .ok (.imul, 1) := by decide +kernel
theorem dX8_binderOf_36 : decode cX8_binderOf 36 = .ok (.iconst 1, 1) := by decide +kernel
theorem dX8_binderOf_37 : decode cX8_binderOf 37 = .ok (.iadd, 1) := by decide +kernel
theorem dX8_binderOf_38 : decode cX8_binderOf 38 = .ok (.iaload, 1) := by decide +kernel
theorem dX8_binderOf_39 : decode cX8_binderOf 39 = .ok (.iload_n 3, 1) := by decide +kernel
theorem dX8_binderOf_40 : decode cX8_binderOf 40 = .ok (.if_icmp .ne 7, 3) := by decide +kernel
theorem dX8_binderOf_47 : decode cX8_binderOf 47 = .ok (.iconst 0, 1) := by decide +kernel
theorem dX8_binderOf_48 : decode cX8_binderOf 48 = .ok (.istore 6, 2) := by decide +kernel
theorem dX8_binderOf_50 : decode cX8_binderOf 50 = .ok (.aload_n 0, 1) := by decide +kernel
theorem dX8_binderOf_51 : decode cX8_binderOf 51 = .ok (.getfield 13, 3) := by decide +kernel
theorem dX8_binderOf_54 : decode cX8_binderOf 54 = .ok (.iload 4, 2) := by decide +kernel
theorem dX8_binderOf_56 : decode cX8_binderOf 56 = .ok (.iaload, 1) := by decide +kernel
theorem dX8_binderOf_57 : decode cX8_binderOf 57 = .ok (.iload_n 2, 1) := by decide +kernel
theorem dX8_binderOf_58 : decode cX8_binderOf 58 = .ok (.if_icmp .ne 31, 3) := by decide +kernel
theorem dX8_binderOf_89 : decode cX8_binderOf 89 = .ok (.iload 4, 2) := by decide +kernel
theorem dX8_binderOf_91 : decode cX8_binderOf 91 = .ok (.istore_n 3, 1) := by decide +kernel
theorem dX8_binderOf_92 : decode cX8_binderOf 92 = .ok (.goto (-90), 3) := by decide +kernel
theorem dX8_binderOf_61 : decode cX8_binderOf 61 = .ok (.iload 5, 2) := by decide +kernel
theorem dX8_binderOf_63 : decode cX8_binderOf 63 = .ok (.iconst 3, 1) := by decide +kernel
theorem dX8_binderOf_64 : decode cX8_binderOf 64 = .ok (.if_icmp .eq 22, 3) := by decide +kernel
theorem dX8_binderOf_86 : decode cX8_binderOf 86 = .ok (.iload 4, 2) := by decide +kernel
theorem dX8_binderOf_88 : decode cX8_binderOf 88 = .ok (.ireturn, 1) := by decide +kernel
theorem dX8_binderOf_67 : decode cX8_binderOf 67 = .ok (.iload 5, 2) := by decide +kernel
theorem dX8_binderOf_69 : decode cX8_binderOf 69 = .ok (.bipush 7, 2) := by decide +kernel
theorem dX8_binderOf_71 : decode cX8_binderOf 71 = .ok (.if_icmp .ne 8, 3) := by decide +kernel
theorem dX8_binderOf_79 : decode cX8_binderOf 79 = .ok (.iload 5, 2) := by decide +kernel
theorem dX8_binderOf_81 : decode cX8_binderOf 81 = .ok (.bipush 8, 2) := by decide +kernel
theorem dX8_binderOf_83 : decode cX8_binderOf 83 = .ok (.if_icmp .ne 6, 3) := by decide +kernel
theorem dX8_binderOf_74 : decode cX8_binderOf 74 = .ok (.iload 6, 2) := by decide +kernel
theorem dX8_binderOf_76 : decode cX8_binderOf 76 = .ok (.ifCond .ne 10, 3) := by decide +kernel
theorem dX8_binderOf_43 : decode cX8_binderOf 43 = .ok (.iconst 1, 1) := by decide +kernel
theorem dX8_binderOf_44 : decode cX8_binderOf 44 = .ok (.goto 4, 3) := by decide +kernel
set_option maxHeartbeats 4000000 in
set_option maxRecDepth 100000 in
/-- binderOf -/
theorem m_binderOf (l : Launch) (G : mG) (hDD : mDD G) (o : Nat → Int32) (F : Nat → Nat → Int32) (tr : aM) (N : Nat) (top : Nat) (n : Nat) (x : Nat) (d : Nat) (hT : TRm tr N o F) (hn : n < N) (ht : top < N) (hx0 : x < 26) (hup : UpT tr top d n) (hd : d < 120) (htop : o 45 = nI top) (sz : Nat) : Met l yX8_binderOf (wU yX8_binderOf cX8_binderOf 7 (some .int)) { frames := 0, cells := 0, slots := 0, locals := 0 } (mPc G o F sz [.ref (mh G), .int (nI n), .int (nI x)]) (mQi G sz (fun r u => u = (o, F) ∧ ((binder tr top x 120 n = none ∧ r = -9) ∨ ∃ q, binder tr top x 120 n = some q ∧ r = nI q ∧ q < N))) 0 0 (mA G sz) := by
  refine Met.ofW (cc := cX8_binderOf) (maxL := 7) (ret := (some .int)) (by decide) rfl ?_
  intro p e s m args below meth c s₁ B hml hv
  obtain ⟨rfl, hsz, hP, hK⟩ := hv
  have hx := B.exec
  have hb := B.bytes
  have hr := B.returns
  have htu : ∀ w ∈ WU, w.before _ s = true := fun w h => atoms_spec (ws := (wU yX8_binderOf cX8_binderOf 7 (some .int))) B.pre w (List.mem_cons_of_mem _ h)
  have hown : s.vm.findClass RX8 = some m.cls := findClass_of_methodNamed B.named
  have hlocks := B.notSynchronized
  subst hsz
  have hS : va_S (mA G s.heap.size) s.heap s.heap [] := va_S.rf
  have hl := lv_entry ([.ref (mh G), .int (nI n), .int (nI x)]) (n := 7) (Nat.le_of_ble_eq_true rfl)
  rw [lg_entry_eq]
  generalize (lg_sl ([.ref (mh G), .int (nI n), .int (nI x)]) ++ List.replicate (7 - (lg_sl ([.ref (mh G), .int (nI n), .int (nI x)])).length) Slot.unset).toArray = ls at hl ⊢
  have hl : lv_has ls 7 [(0, .ref (mh G)), (1, .int (nI n)), (2, .int (nI x))] := hl
  obtain ⟨H, hHe⟩ : ∃ H : Heap, H = s.heap := ⟨_, rfl⟩
  rw [← hHe] at hP
  have hS : va_S (mA G s.heap.size) s.heap H [] := by rw [hHe]; exact va_S.rf
  refine W.heq hHe ?_
  have hN := hT.2.1
  refine lv_iload_n hx hb dX8_binderOf_0 rfl (lv_at hl 1 rfl) ?_
  refine lv_istore_n (lv' := [(3, .int (nI n)), (0, .ref (mh G)), (1, .int (nI n)), (2, .int (nI x))]) hx hb dX8_binderOf_1 rfl hl (by decide) rfl (fun ls hl => ?_)
  refine w_loop (fun j H locs k sl g => ∃ (y : Nat) (ls : Array Slot), y < N ∧ UpT tr top j y ∧ (∃ mf, binder tr top x mf y = binder tr top x 120 n ∧ j < mf) ∧ k = 0 ∧ sl = 0 ∧ mP G o F H ∧ va_S (mA G s.heap.size) s.heap H locs ∧ lv_has ls 7 [(3, .int (nI y)), (0, .ref (mh G)), (1, .int (nI n)), (2, .int (nI x))] ∧ g = F0 m 2 ls []) ?_ ?_ d _ _ _ _ _ ⟨n, ls, hn, hup, ⟨120, rfl, hd⟩, rfl, rfl, hP, hS, lv_sub hl [0, 1, 2, 3] rfl, rfl⟩
  · intro H locs k sl g hI
    obtain ⟨y, ls, hp0, hp1, hp2, rfl, rfl, hP, hS, hl, rfl⟩ := hI
    refine lv_iload_n hx hb dX8_binderOf_2 rfl (lv_at hl 0 rfl) ?_
    refine lv_aload_n hx hb dX8_binderOf_3 rfl (lv_at hl 1 rfl) ?_
    refine m_get (v := .int (nI top)) hx hb htu wu_in hown hK hP 45 (by decide) (htu _ U_60) rfl (m_v htop) dX8_binderOf_4 ?_
    refine lv_icmp_eq (tgt := 95) hx hb dX8_binderOf_7 (by decide) (fun c_1 => ?_) (fun c_1 => absurd (congrArg nI hp1) c_1)
    refine lv_bipush (v := (-9)) hx hb dX8_binderOf_95 (by decide) ?_
    exact m_iret (v := (-9)) hx hb hr hK hP hS ⟨rfl, Or.inl ⟨bin_top hp1 hp2, rfl⟩⟩ dX8_binderOf_97 hlocks
  · intro j ih9 H locs k sl g hI
    obtain ⟨y, ls, hp0, hp1, hp2, rfl, rfl, hP, hS, hl, rfl⟩ := hI
    refine lv_iload_n hx hb dX8_binderOf_2 rfl (lv_at hl 0 rfl) ?_
    refine lv_aload_n hx hb dX8_binderOf_3 rfl (lv_at hl 1 rfl) ?_
    refine m_get (v := .int (nI top)) hx hb htu wu_in hown hK hP 45 (by decide) (htu _ U_60) rfl (m_v htop) dX8_binderOf_4 ?_
    refine lv_icmp_eq (tgt := 95) hx hb dX8_binderOf_7 (by decide) (fun c_2 => ?_) (fun c_2 => ?_)
    · skip
      have nc_2 : y = top := (nI_eq (a := y) (b := top) (by omega) (by omega)).mp c_2
      refine lv_bipush (v := (-9)) hx hb dX8_binderOf_95 (by decide) ?_
      exact m_iret (v := (-9)) hx hb hr hK hP hS ⟨rfl, Or.inl ⟨bin_top nc_2 hp2, rfl⟩⟩ dX8_binderOf_97 hlocks
    · skip
      have nc_2 : ¬ y = top := fun h9 => c_2 ((nI_eq (a := y) (b := top) (by omega) (by omega)).mpr h9)
      obtain ⟨h3, hu9⟩ := hp1.resolve_left nc_2
      have ty0 := hT.2.2 y hp0
      obtain ⟨u1, u2⟩ := ty0.2.2.2.2.2.1 h3
      obtain ⟨k1, k2, k3, k4, k5, k6, k7, k8⟩ := hT.2.2 (tr 3 y - 1) u2
      refine lv_aload_n hx hb dX8_binderOf_10 rfl (lv_at hl 1 rfl) ?_
      refine m_get (v := .ref (md G 6)) hx hb htu wu_in hown hK hP 6 (by decide) (htu _ U_5) rfl rfl dX8_binderOf_11 ?_
      refine lv_iload_n hx hb dX8_binderOf_14 rfl (lv_at hl 0 rfl) ?_
      refine m_ald (j := y) (v := nI (tr 3 y - 1)) hx hb hK hP 6 6 rfl (by omega) (by decide) u1 dX8_binderOf_15 ?_
      refine lv_istore (lv' := [(4, .int (nI (tr 3 y - 1))), (3, .int (nI y)), (0, .ref (mh G)), (1, .int (nI n)), (2, .int (nI x))]) hx hb dX8_binderOf_16 hl (by decide) rfl (fun ls hl => ?_)
      refine lv_aload_n hx hb dX8_binderOf_18 rfl (lv_at hl 2 rfl) ?_
      refine m_get (v := .ref (md G 1)) hx hb htu wu_in hown hK hP 1 (by decide) (htu _ U_2) rfl rfl dX8_binderOf_19 ?_
      refine lv_iload hx hb dX8_binderOf_22 (lv_at hl 0 rfl) ?_
      refine m_ald (j := tr 3 y - 1) (v := nI (tr 0 (tr 3 y - 1))) hx hb hK hP 1 1 rfl (by omega) (by decide) k1 dX8_binderOf_24 ?_
      refine lv_istore (lv' := [(5, .int (nI (tr 0 (tr 3 y - 1)))), (4, .int (nI (tr 3 y - 1))), (3, .int (nI y)), (0, .ref (mh G)), (1, .int (nI n)), (2, .int (nI x))]) hx hb dX8_binderOf_25 hl (by decide) rfl (fun ls hl => ?_)
      refine lv_aload_n hx hb dX8_binderOf_27 rfl (lv_at hl 3 rfl) ?_
      refine m_get (v := .ref (md G 4)) hx hb htu wu_in hown hK hP 4 (by decide) (htu _ U_6) rfl rfl dX8_binderOf_28 ?_
      refine lv_bipush (v := 6) hx hb dX8_binderOf_31 (by decide) ?_
      refine lv_iload hx hb dX8_binderOf_33 (lv_at hl 1 rfl) ?_
      refine lv_imul hx hb dX8_binderOf_35 ?_
      refine m_top (y := nI (6 * (tr 3 y - 1))) (pk_mul 6 (tr 3 y - 1)) ?_
      refine lv_iconst (v := 1) hx hb dX8_binderOf_36 (by decide) ?_
      refine lv_iadd hx hb dX8_binderOf_37 ?_
      refine m_top (y := nI (6 * (tr 3 y - 1) + 1)) (nI_add (6 * (tr 3 y - 1)) 1) ?_
      refine m_ald (j := 6 * (tr 3 y - 1) + 1) (v := F 4 (6 * (tr 3 y - 1) + 1)) hx hb hK hP 4 4 rfl (by omega) (by decide) rfl dX8_binderOf_38 ?_
      refine lv_iload_n hx hb dX8_binderOf_39 rfl (lv_at hl 2 rfl) ?_
      refine lv_icmp_ne (tgt := 47) hx hb dX8_binderOf_40 (by decide) (fun c_3 => ?_) (fun c_3 => ?_)
      · skip
        refine lv_iconst (v := 0) hx hb dX8_binderOf_47 (by decide) ?_
        refine lv_istore (lv' := [(6, .int 0), (5, .int (nI (tr 0 (tr 3 y - 1)))), (4, .int (nI (tr 3 y - 1))), (3, .int (nI y)), (0, .ref (mh G)), (1, .int (nI n)), (2, .int (nI x))]) hx hb dX8_binderOf_48 hl (by decide) rfl (fun ls hl => ?_)
        refine lv_aload_n hx hb dX8_binderOf_50 rfl (lv_at hl 4 rfl) ?_
        refine m_get (v := .ref (md G 2)) hx hb htu wu_in hown hK hP 2 (by decide) (htu _ U_3) rfl rfl dX8_binderOf_51 ?_
        refine lv_iload hx hb dX8_binderOf_54 (lv_at hl 2 rfl) ?_
        refine m_ald (j := tr 3 y - 1) (v := F 2 (tr 3 y - 1)) hx hb hK hP 2 2 rfl (by omega) (by decide) rfl dX8_binderOf_56 ?_
        refine lv_iload_n hx hb dX8_binderOf_57 rfl (lv_at hl 6 rfl) ?_
        refine lv_icmp_ne (tgt := 89) hx hb dX8_binderOf_58 (by decide) (fun c_4 => ?_) (fun c_4 => ?_)
        · skip
          refine lv_iload hx hb dX8_binderOf_89 (lv_at hl 2 rfl) ?_
          refine lv_istore_n (lv' := [(3, .int (nI (tr 3 y - 1))), (6, .int 0), (5, .int (nI (tr 0 (tr 3 y - 1)))), (4, .int (nI (tr 3 y - 1))), (0, .ref (mh G)), (1, .int (nI n)), (2, .int (nI x))]) hx hb dX8_binderOf_91 rfl hl (by decide) rfl (fun ls hl => ?_)
          refine lv_goto (tgt := 2) hx hb dX8_binderOf_92 (by decide) ?_
          exact ih9 _ _ _ _ _ ⟨tr 3 y - 1, ls, u2, hu9, (bin_up nc_2 h3 (fun z => c_4 (by rw [(hT.bl u2 z.2).1, z.1])) hp2), rfl, rfl, hP, hS, lv_sub hl [0, 4, 5, 6] rfl, rfl⟩
        · skip
          refine lv_iload hx hb dX8_binderOf_61 (lv_at hl 1 rfl) ?_
          refine lv_iconst (v := 3) hx hb dX8_binderOf_63 (by decide) ?_
          refine lv_icmp_eq (tgt := 86) hx hb dX8_binderOf_64 (by decide) (fun c_5 => ?_) (fun c_5 => ?_)
          · skip
            have nc_5 : tr 0 (tr 3 y - 1) = 3 := (nI_eq (a := tr 0 (tr 3 y - 1)) (b := 3) (by omega) (by omega)).mp c_5
            refine lv_iload hx hb dX8_binderOf_86 (lv_at hl 2 rfl) ?_
            have hk9 : tr 0 (tr 3 y - 1) = 3 ∨ (tr 0 (tr 3 y - 1) = 7 ∧ tr 11 (tr 3 y - 1) = y) ∨ tr 0 (tr 3 y - 1) = 8 := (Or.inl nc_5)
            have hx9 : tr 1 (tr 3 y - 1) = x := by have h6 := hT.bl u2 hk9; exact (nI_eq (by omega) (by omega)).mp (h6.1.symm.trans c_4)
            exact m_iret (v := nI (tr 3 y - 1)) hx hb hr hK hP hS ⟨rfl, Or.inr ⟨tr 3 y - 1, bin_hit nc_2 h3 ⟨hx9, hk9⟩ hp2, rfl, u2⟩⟩ dX8_binderOf_88 hlocks
          · skip
            have nc_5 : ¬ tr 0 (tr 3 y - 1) = 3 := fun h9 => c_5 ((nI_eq (a := tr 0 (tr 3 y - 1)) (b := 3) (by omega) (by omega)).mpr h9)
            refine lv_iload hx hb dX8_binderOf_67 (lv_at hl 1 rfl) ?_
            refine lv_bipush (v := 7) hx hb dX8_binderOf_69 (by decide) ?_
            refine lv_icmp_ne (tgt := 79) hx hb dX8_binderOf_71 (by decide) (fun c_6 => ?_) (fun c_6 => ?_)
            · skip
              have nc_6 : ¬ tr 0 (tr 3 y - 1) = 7 := fun h9 => c_6 ((nI_eq (a := tr 0 (tr 3 y - 1)) (b := 7) (by omega) (by omega)).mpr h9)
              refine lv_iload hx hb dX8_binderOf_79 (lv_at hl 1 rfl) ?_
              refine lv_bipush (v := 8) hx hb dX8_binderOf_81 (by decide) ?_
              refine lv_icmp_ne (tgt := 89) hx hb dX8_binderOf_83 (by decide) (fun c_7 => ?_) (fun c_7 => ?_)
              · skip
                have nc_7 : ¬ tr 0 (tr 3 y - 1) = 8 := fun h9 => c_7 ((nI_eq (a := tr 0 (tr 3 y - 1)) (b := 8) (by omega) (by omega)).mpr h9)
                refine lv_iload hx hb dX8_binderOf_89 (lv_at hl 2 rfl) ?_
                refine lv_istore_n (lv' := [(3, .int (nI (tr 3 y - 1))), (6, .int 0), (5, .int (nI (tr 0 (tr 3 y - 1)))), (4, .int (nI (tr 3 y - 1))), (0, .ref (mh G)), (1, .int (nI n)), (2, .int (nI x))]) hx hb dX8_binderOf_91 rfl hl (by decide) rfl (fun ls hl => ?_)
                refine lv_goto (tgt := 2) hx hb dX8_binderOf_92 (by decide) ?_
                exact ih9 _ _ _ _ _ ⟨tr 3 y - 1, ls, u2, hu9, (bin_up nc_2 h3 (fun z => z.2.elim (fun h => nc_5 h) (fun h => h.elim (fun h => nc_6 h.1) (fun h => nc_7 h))) hp2), rfl, rfl, hP, hS, lv_sub hl [0, 4, 5, 6] rfl, rfl⟩
              · skip
                have nc_7 : tr 0 (tr 3 y - 1) = 8 := (nI_eq (a := tr 0 (tr 3 y - 1)) (b := 8) (by omega) (by omega)).mp c_7
                refine lv_iload hx hb dX8_binderOf_86 (lv_at hl 2 rfl) ?_
                have hk9 : tr 0 (tr 3 y - 1) = 3 ∨ (tr 0 (tr 3 y - 1) = 7 ∧ tr 11 (tr 3 y - 1) = y) ∨ tr 0 (tr 3 y - 1) = 8 := (Or.inr (Or.inr nc_7))
                have hx9 : tr 1 (tr 3 y - 1) = x := by have h6 := hT.bl u2 hk9; exact (nI_eq (by omega) (by omega)).mp (h6.1.symm.trans c_4)
                exact m_iret (v := nI (tr 3 y - 1)) hx hb hr hK hP hS ⟨rfl, Or.inr ⟨tr 3 y - 1, bin_hit nc_2 h3 ⟨hx9, hk9⟩ hp2, rfl, u2⟩⟩ dX8_binderOf_88 hlocks
            · skip
              have nc_6 : tr 0 (tr 3 y - 1) = 7 := (nI_eq (a := tr 0 (tr 3 y - 1)) (b := 7) (by omega) (by omega)).mp c_6
              refine lv_iload hx hb dX8_binderOf_74 (lv_at hl 0 rfl) ?_
              refine lv_if_ne (tgt := 86) hx hb dX8_binderOf_76 (by decide) (fun c_8 => absurd (by decide) c_8) (fun c_8 => ?_)
              refine lv_iload hx hb dX8_binderOf_79 (lv_at hl 1 rfl) ?_
              refine lv_bipush (v := 8) hx hb dX8_binderOf_81 (by decide) ?_
              refine lv_icmp_ne (tgt := 89) hx hb dX8_binderOf_83 (by decide) (fun c_9 => ?_) (fun c_9 => ?_)
              · skip
                have nc_9 : ¬ tr 0 (tr 3 y - 1) = 8 := fun h9 => c_9 ((nI_eq (a := tr 0 (tr 3 y - 1)) (b := 8) (by omega) (by omega)).mpr h9)
                refine lv_iload hx hb dX8_binderOf_89 (lv_at hl 2 rfl) ?_
                refine lv_istore_n (lv' := [(3, .int (nI (tr 3 y - 1))), (6, .int 0), (5, .int (nI (tr 0 (tr 3 y - 1)))), (4, .int (nI (tr 3 y - 1))), (0, .ref (mh G)), (1, .int (nI n)), (2, .int (nI x))]) hx hb dX8_binderOf_91 rfl hl (by decide) rfl (fun ls hl => ?_)
                refine lv_goto (tgt := 2) hx hb dX8_binderOf_92 (by decide) ?_
                exact ih9 _ _ _ _ _ ⟨tr 3 y - 1, ls, u2, hu9, (bin_up nc_2 h3 (fun z => z.2.elim (fun h => nc_5 h) (fun h => h.elim (fun h => c_3 (by rw [(hT.two u2 h.1).1, h.2])) (fun h => nc_9 h))) hp2), rfl, rfl, hP, hS, lv_sub hl [0, 4, 5, 6] rfl, rfl⟩
              · skip
                have nc_9 : tr 0 (tr 3 y - 1) = 8 := (nI_eq (a := tr 0 (tr 3 y - 1)) (b := 8) (by omega) (by omega)).mp c_9
                refine lv_iload hx hb dX8_binderOf_86 (lv_at hl 2 rfl) ?_
                have hk9 : tr 0 (tr 3 y - 1) = 3 ∨ (tr 0 (tr 3 y - 1) = 7 ∧ tr 11 (tr 3 y - 1) = y) ∨ tr 0 (tr 3 y - 1) = 8 := (Or.inr (Or.inr nc_9))
                have hx9 : tr 1 (tr 3 y - 1) = x := by have h6 := hT.bl u2 hk9; exact (nI_eq (by omega) (by omega)).mp (h6.1.symm.trans c_4)
                exact m_iret (v := nI (tr 3 y - 1)) hx hb hr hK hP hS ⟨rfl, Or.inr ⟨tr 3 y - 1, bin_hit nc_2 h3 ⟨hx9, hk9⟩ hp2, rfl, u2⟩⟩ dX8_binderOf_88 hlocks
      · skip
        refine lv_iconst (v := 1) hx hb dX8_binderOf_43 (by decide) ?_
        refine lv_goto (tgt := 48) hx hb dX8_binderOf_44 (by decide) ?_
        refine lv_istore (lv' := [(6, .int 1), (5, .int (nI (tr 0 (tr 3 y - 1)))), (4, .int (nI (tr 3 y - 1))), (3, .int (nI y)), (0, .ref (mh G)), (1, .int (nI n)), (2, .int (nI x))]) hx hb dX8_binderOf_48 hl (by decide) rfl (fun ls hl => ?_)
        refine lv_aload_n hx hb dX8_binderOf_50 rfl (lv_at hl 4 rfl) ?_
        refine m_get (v := .ref (md G 2)) hx hb htu wu_in hown hK hP 2 (by decide) (htu _ U_3) rfl rfl dX8_binderOf_51 ?_
        refine lv_iload hx hb dX8_binderOf_54 (lv_at hl 2 rfl) ?_
        refine m_ald (j := tr 3 y - 1) (v := F 2 (tr 3 y - 1)) hx hb hK hP 2 2 rfl (by omega) (by decide) rfl dX8_binderOf_56 ?_
        refine lv_iload_n hx hb dX8_binderOf_57 rfl (lv_at hl 6 rfl) ?_
        refine lv_icmp_ne (tgt := 89) hx hb dX8_binderOf_58 (by decide) (fun c_10 => ?_) (fun c_10 => ?_)
        · skip
          refine lv_iload hx hb dX8_binderOf_89 (lv_at hl 2 rfl) ?_
          refine lv_istore_n (lv' := [(3, .int (nI (tr 3 y - 1))), (6, .int 1), (5, .int (nI (tr 0 (tr 3 y - 1)))), (4, .int (nI (tr 3 y - 1))), (0, .ref (mh G)), (1, .int (nI n)), (2, .int (nI x))]) hx hb dX8_binderOf_91 rfl hl (by decide) rfl (fun ls hl => ?_)
          refine lv_goto (tgt := 2) hx hb dX8_binderOf_92 (by decide) ?_
          exact ih9 _ _ _ _ _ ⟨tr 3 y - 1, ls, u2, hu9, (bin_up nc_2 h3 (fun z => c_10 (by rw [(hT.bl u2 z.2).1, z.1])) hp2), rfl, rfl, hP, hS, lv_sub hl [0, 4, 5, 6] rfl, rfl⟩
        · skip
          refine lv_iload hx hb dX8_binderOf_61 (lv_at hl 1 rfl) ?_
          refine lv_iconst (v := 3) hx hb dX8_binderOf_63 (by decide) ?_
          refine lv_icmp_eq (tgt := 86) hx hb dX8_binderOf_64 (by decide) (fun c_11 => ?_) (fun c_11 => ?_)
          · skip
            have nc_11 : tr 0 (tr 3 y - 1) = 3 := (nI_eq (a := tr 0 (tr 3 y - 1)) (b := 3) (by omega) (by omega)).mp c_11
            refine lv_iload hx hb dX8_binderOf_86 (lv_at hl 2 rfl) ?_
            have hk9 : tr 0 (tr 3 y - 1) = 3 ∨ (tr 0 (tr 3 y - 1) = 7 ∧ tr 11 (tr 3 y - 1) = y) ∨ tr 0 (tr 3 y - 1) = 8 := (Or.inl nc_11)
            have hx9 : tr 1 (tr 3 y - 1) = x := by have h6 := hT.bl u2 hk9; exact (nI_eq (by omega) (by omega)).mp (h6.1.symm.trans c_10)
            exact m_iret (v := nI (tr 3 y - 1)) hx hb hr hK hP hS ⟨rfl, Or.inr ⟨tr 3 y - 1, bin_hit nc_2 h3 ⟨hx9, hk9⟩ hp2, rfl, u2⟩⟩ dX8_binderOf_88 hlocks
          · skip
            have nc_11 : ¬ tr 0 (tr 3 y - 1) = 3 := fun h9 => c_11 ((nI_eq (a := tr 0 (tr 3 y - 1)) (b := 3) (by omega) (by omega)).mpr h9)
            refine lv_iload hx hb dX8_binderOf_67 (lv_at hl 1 rfl) ?_
            refine lv_bipush (v := 7) hx hb dX8_binderOf_69 (by decide) ?_
            refine lv_icmp_ne (tgt := 79) hx hb dX8_binderOf_71 (by decide) (fun c_12 => ?_) (fun c_12 => ?_)
            · skip
              have nc_12 : ¬ tr 0 (tr 3 y - 1) = 7 := fun h9 => c_12 ((nI_eq (a := tr 0 (tr 3 y - 1)) (b := 7) (by omega) (by omega)).mpr h9)
              refine lv_iload hx hb dX8_binderOf_79 (lv_at hl 1 rfl) ?_
              refine lv_bipush (v := 8) hx hb dX8_binderOf_81 (by decide) ?_
              refine lv_icmp_ne (tgt := 89) hx hb dX8_binderOf_83 (by decide) (fun c_13 => ?_) (fun c_13 => ?_)
              · skip
                have nc_13 : ¬ tr 0 (tr 3 y - 1) = 8 := fun h9 => c_13 ((nI_eq (a := tr 0 (tr 3 y - 1)) (b := 8) (by omega) (by omega)).mpr h9)
                refine lv_iload hx hb dX8_binderOf_89 (lv_at hl 2 rfl) ?_
                refine lv_istore_n (lv' := [(3, .int (nI (tr 3 y - 1))), (6, .int 1), (5, .int (nI (tr 0 (tr 3 y - 1)))), (4, .int (nI (tr 3 y - 1))), (0, .ref (mh G)), (1, .int (nI n)), (2, .int (nI x))]) hx hb dX8_binderOf_91 rfl hl (by decide) rfl (fun ls hl => ?_)
                refine lv_goto (tgt := 2) hx hb dX8_binderOf_92 (by decide) ?_
                exact ih9 _ _ _ _ _ ⟨tr 3 y - 1, ls, u2, hu9, (bin_up nc_2 h3 (fun z => z.2.elim (fun h => nc_11 h) (fun h => h.elim (fun h => nc_12 h.1) (fun h => nc_13 h))) hp2), rfl, rfl, hP, hS, lv_sub hl [0, 4, 5, 6] rfl, rfl⟩
              · skip
                have nc_13 : tr 0 (tr 3 y - 1) = 8 := (nI_eq (a := tr 0 (tr 3 y - 1)) (b := 8) (by omega) (by omega)).mp c_13
                refine lv_iload hx hb dX8_binderOf_86 (lv_at hl 2 rfl) ?_
                have hk9 : tr 0 (tr 3 y - 1) = 3 ∨ (tr 0 (tr 3 y - 1) = 7 ∧ tr 11 (tr 3 y - 1) = y) ∨ tr 0 (tr 3 y - 1) = 8 := (Or.inr (Or.inr nc_13))
                have hx9 : tr 1 (tr 3 y - 1) = x := by have h6 := hT.bl u2 hk9; exact (nI_eq (by omega) (by omega)).mp (h6.1.symm.trans c_10)
                exact m_iret (v := nI (tr 3 y - 1)) hx hb hr hK hP hS ⟨rfl, Or.inr ⟨tr 3 y - 1, bin_hit nc_2 h3 ⟨hx9, hk9⟩ hp2, rfl, u2⟩⟩ dX8_binderOf_88 hlocks
            · skip
              have nc_12 : tr 0 (tr 3 y - 1) = 7 := (nI_eq (a := tr 0 (tr 3 y - 1)) (b := 7) (by omega) (by omega)).mp c_12
              refine lv_iload hx hb dX8_binderOf_74 (lv_at hl 0 rfl) ?_
              refine lv_if_ne (tgt := 86) hx hb dX8_binderOf_76 (by decide) (fun c_14 => ?_) (fun c_14 => absurd c_14 (by decide))
              refine lv_iload hx hb dX8_binderOf_86 (lv_at hl 2 rfl) ?_
              have t11 : tr 11 (tr 3 y - 1) = y := by have h6 := hT.two u2 nc_12; exact (nI_eq (by omega) (by omega)).mp (h6.1.symm.trans c_3)
              have hk9 : tr 0 (tr 3 y - 1) = 3 ∨ (tr 0 (tr 3 y - 1) = 7 ∧ tr 11 (tr 3 y - 1) = y) ∨ tr 0 (tr 3 y - 1) = 8 := (Or.inr (Or.inl ⟨nc_12, t11⟩))
              have hx9 : tr 1 (tr 3 y - 1) = x := by have h6 := hT.bl u2 hk9; exact (nI_eq (by omega) (by omega)).mp (h6.1.symm.trans c_10)
              exact m_iret (v := nI (tr 3 y - 1)) hx hb hr hK hP hS ⟨rfl, Or.inr ⟨tr 3 y - 1, bin_hit nc_2 h3 ⟨hx9, hk9⟩ hp2, rfl, u2⟩⟩ dX8_binderOf_88 hlocks

