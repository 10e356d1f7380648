theorem dX8_toldAs_0 : decode cX8_toldAs 0 = .ok (.aload_n 0, 1) := by decide +kernel
theorem dX8_toldAs_1 : decode cX8_toldAs 1 = .ok (.iconst 0, 1) := by decide +kernel
theorem dX8_toldAs_2 : decode cX8_toldAs 2 = .ok (.putfield 298, 3) := by decide +kernel
theorem dX8_toldAs_5 : decode cX8_toldAs 5 = .ok (.aload_n 0, 1) := by decide +kernel
theorem dX8_toldAs_6 : decode cX8_toldAs 6 = .ok (.sipush 400, 3) := by decide +kernel
theorem dX8_toldAs_9 : decode cX8_toldAs 9 = .ok (.putfield 301, 3) := by decide +kernel
theorem dX8_toldAs_12 : decode cX8_toldAs 12 = .ok (.iconst 0, 1) := by decide +kernel
theorem dX8_toldAs_13 : decode cX8_toldAs 13 = .ok (.istore 4, 2) := by decide +kernel
theorem dX8_toldAs_15 : decode cX8_toldAs 15 = .ok (.iload 4, 2) := by decide +kernel
theorem dX8_toldAs_17 : decode cX8_toldAs 17 = .ok (.sipush 300, 3) := by decide +kernel
theorem dX8_toldAs_20 : decode cX8_toldAs 20 = .ok (.if_icmp .ge 17, 3) := by decide +kernel
theorem dX8_toldAs_37 : decode cX8_toldAs 37 = .ok (.aload_n 0, 1) := by decide +kernel
theorem dX8_toldAs_38 : decode cX8_toldAs 38 = .ok (.iload_n 1, 1) := by decide +kernel
theorem dX8_toldAs_39 : decode cX8_toldAs 39 = .ok (.iload_n 2, 1) := by decide +kernel
theorem dX8_toldAs_40 : decode cX8_toldAs 40 = .ok (.invokevirtual 310, 3) := by decide +kernel
theorem dX8_toldAs_43 : decode cX8_toldAs 43 = .ok (.iload_n 3, 1) := by decide +kernel
theorem dX8_toldAs_44 : decode cX8_toldAs 44 = .ok (.iconst (-1), 1) := by decide +kernel
theorem dX8_toldAs_45 : decode cX8_toldAs 45 = .ok (.if_icmp .ne 10, 3) := by decide +kernel
theorem dX8_toldAs_55 : decode cX8_toldAs 55 = .ok (.iload_n 3, 1) := by decide +kernel
theorem dX8_toldAs_56 : decode cX8_toldAs 56 = .ok (.iconst 0, 1) := by decide +kernel
theorem dX8_toldAs_57 : decode cX8_toldAs 57 = .ok (.aload_n 0, 1) := by decide +kernel
theorem dX8_toldAs_58 : decode cX8_toldAs 58 = .ok (.getfield 298, 3) := by decide +kernel
theorem dX8_toldAs_61 : decode cX8_toldAs 61 = .ok (.iconst 1, 1) := by decide +kernel
theorem dX8_toldAs_62 : decode cX8_toldAs 62 = .ok (.isub, 1) := by decide +kernel
theorem dX8_toldAs_63 : decode cX8_toldAs 63 = .ok (.invokestatic 140, 3) := by decide +kernel
theorem dX8_toldAs_66 : decode cX8_toldAs 66 = .ok (.ifCond .eq 12, 3) := by decide +kernel
theorem dX8_toldAs_69 : decode cX8_toldAs 69 = .ok (.aload_n 0, 1) := by decide +kernel
theorem dX8_toldAs_70 : decode cX8_toldAs 70 = .ok (.getfield 92, 3) := by decide +kernel
theorem dX8_toldAs_73 : decode cX8_toldAs 73 = .ok (.iload_n 3, 1) := by decide +kernel
theorem dX8_toldAs_74 : decode cX8_toldAs 74 = .ok (.baload, 1) := by decide +kernel
theorem dX8_toldAs_75 : decode cX8_toldAs 75 = .ok (.goto 5, 3) := by decide +kernel
theorem dX8_toldAs_80 : decode cX8_toldAs 80 = .ok (.ireturn, 1) := by decide +kernel
theorem dX8_toldAs_78 : decode cX8_toldAs 78 = .ok (.bipush (-9), 2) := by decide +kernel
theorem dX8_toldAs_48 : decode cX8_toldAs 48 = .ok (.aload_n 0, 1) := by decide +kernel
theorem dX8_toldAs_49 : decode cX8_toldAs 49 = .ok (.getfield 298, 3) := by decide +kernel
theorem dX8_toldAs_52 : decode cX8_toldAs 52 = .ok (.goto 28, 3) := by decide +kernel
theorem dX8_toldAs_23 : decode cX8_toldAs 23 = .ok (.aload_n 0, 1) := by decide +kernel
theorem dX8_toldAs_24 : decode cX8_toldAs 24 = .ok (.getfield 96, 3) := by decide +kernel
theorem dX8_toldAs_27 : decode cX8_toldAs 27 = .ok (.iload 4, 2) := by decide +kernel
theorem dX8_toldAs_29 : decode cX8_toldAs 29 = .ok (.iconst 0, 1) := by decide +kernel
theorem dX8_toldAs_30 : decode cX8_toldAs 30 = .ok (.bastore, 1) := by decide +kernel
theorem dX8_toldAs_31 : decode cX8_toldAs 31 = .ok (.iinc 4 1, 3) := by decide +kernel
theorem dX8_toldAs_34 : decode cX8_toldAs 34 = .ok (.goto (-19), 3) := by decide +kernel
theorem dX8_sign_0 : decode cX8_sign 0 = .ok (.aload_n 0, 1) := by decide +kernel
theorem dX8_sign_1 : decode cX8_sign 1 = .ok (.getfield 177, 3) := by decide +kernel
theorem dX8_sign_4 : decode cX8_sign 4 = .ok (.ifCond .eq 16, 3) := by decide +kernel
theorem dX8_sign_20 : decode cX8_sign 20 = .ok (.bipush (-4), 2) := by decide +kernel
theorem dX8_sign_22 : decode cX8_sign 22 = .ok (.ireturn, 1) := by decide +kernel
theorem dX8_sign_7 : decode cX8_sign 7 = .ok (.aload_n 0, 1) := by decide +kernel
theorem dX8_sign_8 : decode cX8_sign 8 = .ok (.aload_n 0, 1) := by decide +kernel
theorem dX8_sign_9 : decode cX8_sign 9 = .ok (.getfield 295, 3) := by decide +kernel
theorem dX8_sign_12 : decode cX8_sign 12 = .ok (.iconst 0, 1) := by decide +kernel
theorem dX8_sign_13 : decode cX8_sign 13 = .ok (.iload_n 1, 1) := by decide +kernel
theorem dX8_sign_14 : decode cX8_sign 14 = .ok (.invokevirtual 319, 3) := by decide +kernel
theorem dX8_sign_17 : decode cX8_sign 17 = .ok (.goto 5, 3) := by decide +kernel
theorem dX8_bound_0 : decode cX8_bound 0 = .ok (.aload_n 0, 1) := by decide +kernel
theorem dX8_bound_1 : decode cX8_bound 1 = .ok (.iload_n 1, 1) := by decide +kernel
theorem dX8_bound_2 : decode cX8_bound 2 = .ok (.invokevirtual 322, 3) := by decide +kernel
theorem dX8_bound_5 : decode cX8_bound 5 = .ok (.ifCond .ne 5, 3) := by decide +kernel
theorem dX8_bound_10 : decode cX8_bound 10 = .ok (.iconst 2, 1) := by decide +kernel
theorem dX8_bound_11 : decode cX8_bound 11 = .ok (.iload_n 1, 1) := by decide +kernel
theorem dX8_bound_12 : decode cX8_bound 12 = .ok (.imul, 1) := by decide +kernel
theorem dX8_bound_13 : decode cX8_bound 13 = .ok (.iload_n 2, 1) := by decide +kernel
theorem dX8_bound_14 : decode cX8_bound 14 = .ok (.ifCond .eq 7, 3) := by decide +kernel
theorem dX8_bound_21 : decode cX8_bound 21 = .ok (.iconst 0, 1) := by decide +kernel
theorem dX8_bound_22 : decode cX8_bound 22 = .ok (.iadd, 1) := by decide +kernel
theorem dX8_bound_23 : decode cX8_bound 23 = .ok (.istore 5, 2) := by decide +kernel
theorem dX8_bound_25 : decode cX8_bound 25 = .ok (.iload_n 3, 1) := by decide +kernel
theorem dX8_bound_26 : decode cX8_bound 26 = .ok (.iconst 0, 1) := by decide +kernel
theorem dX8_bound_27 : decode cX8_bound 27 = .ok (.aload_n 0, 1) := by decide +kernel
theorem dX8_bound_28 : decode cX8_bound 28 = .ok (.getfield 62, 3) := by decide +kernel
theorem dX8_bound_31 : decode cX8_bound 31 = .ok (.iload 5, 2) := by decide +kernel
theorem dX8_bound_33 : decode cX8_bound 33 = .ok (.iaload, 1) := by decide +kernel
theorem dX8_bound_34 : decode cX8_bound 34 = .ok (.iconst 1, 1) := by decide +kernel
theorem dX8_bound_35 : decode cX8_bound 35 = .ok (.isub, 1) := by decide +kernel
theorem dX8_bound_36 : decode cX8_bound 36 = .ok (.invokestatic 140, 3) := by decide +kernel
theorem dX8_bound_39 : decode cX8_bound 39 = .ok (.ifCond .ne 6, 3) := by decide +kernel
theorem dX8_bound_45 : decode cX8_bound 45 = .ok (.aload_n 0, 1) := by decide +kernel
theorem dX8_bound_46 : decode cX8_bound 46 = .ok (.getfield 56, 3) := by decide +kernel
theorem dX8_bound_49 : decode cX8_bound 49 = .ok (.iload 5, 2) := by decide +kernel
theorem dX8_bound_51 : decode cX8_bound 51 = .ok (.iaload, 1) := by decide +kernel
theorem dX8_bound_52 : decode cX8_bound 52 = .ok (.istore 6, 2) := by decide +kernel
theorem dX8_bound_54 : decode cX8_bound 54 = .ok (.iconst 0, 1) := by decide +kernel
theorem dX8_bound_55 : decode cX8_bound 55 = .ok (.istore 7, 2) := by decide +kernel
theorem dX8_bound_57 : decode cX8_bound 57 = .ok (.iload 7, 2) := by decide +kernel
theorem dX8_bound_59 : decode cX8_bound 59 = .ok (.iload_n 3, 1) := by decide +kernel
theorem dX8_bound_60 : decode cX8_bound 60 = .ok (.if_icmp .ge 18, 3) := by decide +kernel
theorem dX8_bound_78 : decode cX8_bound 78 = .ok (.aload_n 0, 1) := by decide +kernel
theorem dX8_bound_79 : decode cX8_bound 79 = .ok (.aload_n 0, 1) := by decide +kernel
theorem dX8_bound_80 : decode cX8_bound 80 = .ok (.getfield 50, 3) := by decide +kernel
theorem dX8_bound_83 : decode cX8_bound 83 = .ok (.iload 6, 2) := by decide +kernel
theorem dX8_bound_85 : decode cX8_bound 85 = .ok (.iaload, 1) := by decide +kernel
theorem dX8_bound_86 : decode cX8_bound 86 = .ok (.iload_n 2, 1) := by decide +kernel
theorem dX8_bound_87 : decode cX8_bound 87 = .ok (.ifCond .eq 7, 3) := by decide +kernel
theorem dX8_bound_94 : decode cX8_bound 94 = .ok (.iconst 0, 1) := by decide +kernel
theorem dX8_bound_95 : decode cX8_bound 95 = .ok (.iload 4, 2) := by decide +kernel
theorem dX8_bound_97 : decode cX8_bound 97 = .ok (.invokevirtual 319, 3) := by decide +kernel
theorem dX8_bound_100 : decode cX8_bound 100 = .ok (.ireturn, 1) := by decide +kernel
theorem dX8_bound_63 : decode cX8_bound 63 = .ok (.aload_n 0, 1) := by decide +kernel
theorem dX8_bound_64 : decode cX8_bound 64 = .ok (.getfield 53, 3) := by decide +kernel
theorem dX8_bound_67 : decode cX8_bound 67 = .ok (.iload 6, 2) := by decide +kernel
theorem dX8_bound_69 : decode cX8_bound 69 = .ok (.iaload, 1) := by decide +kernel
theorem dX8_bound_70 : decode cX8_bound 70 = .ok (.istore 6, 2) := by decide +kernel
theorem dX8_bound_72 : decode cX8_bound 72 = .ok (.iinc 7 1, 3) := by decide +kernel
theorem dX8_bound_75 : decode cX8_bound 75 = .ok (.goto (-18), 3) := by decide +kernel
theorem dX8_bound_42 : decode cX8_bound 42 = .ok (.bipush (-9), 2) := by decide +kernel
theorem dX8_bound_44 : decode cX8_bound 44 = .ok (.ireturn, 1) := by decide +kernel
theorem dX8_bound_17 : decode cX8_bound 17 = .ok (.iconst 1, 1) := by decide +kernel
theorem dX8_bound_18 : decode cX8_bound 18 = .ok (.goto 4, 3) := by decide +kernel
theorem dX8_bound_90 : decode cX8_bound 90 = .ok (.iconst 1, 1) := by decide +kernel
theorem dX8_bound_91 : decode cX8_bound 91 = .ok (.goto 4, 3) := by decide +kernel
theorem dX8_bound_8 : decode cX8_bound 8 = .ok (.iconst (-1), 1) := by decide +kernel
theorem dX8_bound_9 : decode cX8_bound 9 = .ok (.ireturn, 1) := by decide +kernel
theorem m_tell_all : ∀ d : Nat, mTellAt d := by
  intro d
  induction d with
  | zero =>
    intro l G hDD o F z ix bm mo t way hR h47 h48 hmo hbm hd ht hw2 sz
    exact m_tell_0 l G hDD o F z ix bm mo t way hR h47 h48 hmo hbm hd ht hw2 sz
  | succ d ih =>
    intro l G hDD o F z ix bm mo t way hR h47 h48 hmo hbm hd ht hw2 sz
    refine m_tell_s l G hDD o F d z ix bm mo t way ih ?_ hR h47 h48 hmo hbm hd ht hw2 sz
    intro l G hDD o F z ix bm mo v way hR h47 h48 hmo hbm hd hv9 hw2 sz
    exact m_tellV_s l G hDD o F d z ix bm mo v way ih hR h47 h48 hmo hbm hd hv9 hw2 sz

set_option maxHeartbeats 4000000 in
set_option maxRecDepth 100000 in
/-- toldAs -/
theorem m_toldAs (l : Launch) (G : mG) (hDD : mDD G) (o : Nat → Int32) (F : Nat → Nat → Int32) (z : aS) (ix : Nat → Nat → Nat) (t : Nat) (way : Nat) (y : Int32) (hR : MR z ix o F) (ht : t < nT z) (hw2 : way < 2) (sz : Nat) : Met l yX8_toldAs (wU yX8_toldAs cX8_toldAs 5 (some .int)) { frames := 803, cells := 0, slots := 0, locals := 20123 } (mPc G o F sz [.ref (mh G), .int (nI t), .int (nI way), .int y]) (mQi G sz (fun r u => Kq LTa o F u)) 0 0 (mA G sz) := by
  refine Met.ofW (cc := cX8_toldAs) (maxL := 5) (ret := (some .int)) (by decide) rfl ?_
  intro p e s m args below meth c s₁ B hml hv
  obtain ⟨rfl, hsz, hP, hK⟩ := hv
  have hx := B.exec
  have hb := B.bytes
  have hr := B.returns
  have htu : ∀ w ∈ WU, w.before _ s = true := fun w h => atoms_spec (ws := (wU yX8_toldAs cX8_toldAs 5 (some .int))) B.pre w (List.mem_cons_of_mem _ h)
  have hown : s.vm.findClass RX8 = some m.cls := findClass_of_methodNamed B.named
  have hlocks := B.notSynchronized
  subst hsz
  have hS : va_S (mA G s.heap.size) s.heap s.heap [] := va_S.rf
  have hl := lv_entry ([.ref (mh G), .int (nI t), .int (nI way), .int y]) (n := 5) (Nat.le_of_ble_eq_true rfl)
  rw [lg_entry_eq]
  generalize (lg_sl ([.ref (mh G), .int (nI t), .int (nI way), .int y]) ++ List.replicate (5 - (lg_sl ([.ref (mh G), .int (nI t), .int (nI way), .int y])).length) Slot.unset).toArray = ls at hl ⊢
  have hl : lv_has ls 5 [(0, .ref (mh G)), (1, .int (nI t)), (2, .int (nI way)), (3, .int y)] := hl
  obtain ⟨H, hHe⟩ : ∃ H : Heap, H = s.heap := ⟨_, rfl⟩
  rw [← hHe] at hP
  have hS : va_S (mA G s.heap.size) s.heap H [] := by rw [hHe]; exact va_S.rf
  refine W.heq hHe ?_
  refine lv_aload_n hx hb dX8_toldAs_0 rfl (lv_at hl 0 rfl) ?_
  refine lv_iconst (v := 0) hx hb dX8_toldAs_1 (by decide) ?_
  refine m_put (ty := .int) (x := 0) hx hb htu wu_in hown hK hP hDD hS 47 (by decide) (htu _ U_187) rfl rfl (by decide +kernel) rfl rfl (mO_s47 _ _ _) dX8_toldAs_2 (fun H locs hP hS => ?_)
  refine lv_aload_n hx hb dX8_toldAs_5 rfl (lv_at hl 0 rfl) ?_
  refine lv_sipush (v := 400) hx hb dX8_toldAs_6 (by decide) ?_
  refine m_put (ty := .int) (x := 400) hx hb htu wu_in hown hK hP hDD hS 48 (by decide) (htu _ U_188) rfl rfl (by decide +kernel) rfl rfl (mO_s48 _ _ _) dX8_toldAs_9 (fun H locs hP hS => ?_)
  refine lv_iconst (v := 0) hx hb dX8_toldAs_12 (by decide) ?_
  refine lv_istore (lv' := [(4, .int 0), (0, .ref (mh G)), (1, .int (nI t)), (2, .int (nI way)), (3, .int y)]) hx hb dX8_toldAs_13 hl (by decide) rfl (fun ls hl => ?_)
  refine w_loop (fun j H locs k sl g => ∃ (i : Nat) (F1 : Nat → Nat → Int32) (ls : Array Slot), i + j = 300 ∧ Kq LTa o F (upd (upd o 47 0) 48 400, F1) ∧ k = 0 ∧ sl = 0 ∧ mP G (upd (upd o 47 0) 48 400) F1 H ∧ va_S (mA G s.heap.size) s.heap H locs ∧ lv_has ls 5 [(0, .ref (mh G)), (1, .int (nI t)), (2, .int (nI way)), (3, .int y), (4, .int (nI i))] ∧ g = F0 m 15 ls []) ?_ ?_ 300 _ _ _ _ _ ⟨0, F, ls, by omega, ((Kq.rf (L := LTa) (o := o) (F := F)).o (by decide)).o (by decide), rfl, rfl, hP, hS, lv_sub hl [1, 2, 3, 4, 0] rfl, rfl⟩
  · intro H locs k sl g hI
    obtain ⟨i, F1, ls, hp0, hp1, rfl, rfl, hP, hS, hl, rfl⟩ := hI
    refine lv_iload hx hb dX8_toldAs_15 (lv_at hl 4 rfl) ?_
    refine lv_sipush (v := 300) hx hb dX8_toldAs_17 (by decide) ?_
    refine lv_icmp_ge (tgt := 37) hx hb dX8_toldAs_20 (by decide) (fun c_1 => ?_) (fun c_1 => absurd (nI_le (a := 300) (by omega) (by omega)) c_1)
    refine lv_aload_n hx hb dX8_toldAs_37 rfl (lv_at hl 0 rfl) ?_
    refine lv_iload_n hx hb dX8_toldAs_38 rfl (lv_at hl 1 rfl) ?_
    refine lv_iload_n hx hb dX8_toldAs_39 rfl (lv_at hl 2 rfl) ?_
    refine m_cv (m_runV (As := [.int (nI t), .int (nI way)]) (rest := []) ⟨hx, hb, hml, hown, htu⟩ (m_tell_all 400 l G hDD (upd (upd o 47 0) 48 400) F1 z ix 0 400 t way ((hR.tella hp1)) rfl rfl ((by decide)) ((by decide)) ((by decide)) ht hw2 H.size) (cwV 2 htu gU_X8_tell rfl rfl rfl (by decide +kernel) ⟨Nat.le_of_ble_eq_true rfl, Nat.le_of_ble_eq_true rfl⟩) hP hK rfl hl.1 rfl (lv_room (Nat.le_of_ble_eq_true rfl)) dX8_toldAs_40) hS (fun o_3 F_4 H locs hw_5 hP hS => ?_)
    try dsimp only at hw_5
    obtain ⟨b9, b9a, b9b, b9d, b9e⟩ := hw_5
    have hK9 := hp1.tr (b9e.mono (by decide))
    refine lv_iload_n hx hb dX8_toldAs_43 rfl (lv_at hl 3 rfl) ?_
    refine lv_iconst (v := (-1)) hx hb dX8_toldAs_44 (by decide) ?_
    refine lv_icmp_ne (tgt := 55) hx hb dX8_toldAs_45 (by decide) (fun c_6 => ?_) (fun c_6 => ?_)
    · skip
      refine lv_iload_n hx hb dX8_toldAs_55 rfl (lv_at hl 3 rfl) ?_
      refine lv_iconst (v := 0) hx hb dX8_toldAs_56 (by decide) ?_
      refine lv_aload_n hx hb dX8_toldAs_57 rfl (lv_at hl 0 rfl) ?_
      refine m_get (v := .int (nI b9)) hx hb htu wu_in hown hK hP 47 (by decide) (htu _ U_187) rfl (m_v b9d) dX8_toldAs_58 ?_
      refine lv_iconst (v := 1) hx hb dX8_toldAs_61 (by decide) ?_
      refine lv_isub hx hb dX8_toldAs_62 ?_
      refine m_top (y := nI b9 - 1) rfl ?_
      refine m_ci (m_runS (As := [.int y, .int 0, .int (nI b9 - 1)]) (rest := []) ⟨hx, hb, hml, hown, htu⟩ (m_inn l G hDD o_3 F_4 y 0 ((nI b9 - 1)) H.size) (va_cwS 3 htu gU_X8_in rfl rfl rfl (by decide +kernel) ⟨Nat.le_of_ble_eq_true rfl, Nat.le_of_ble_eq_true rfl⟩) hP hK rfl hl.1 rfl (lv_room (Nat.le_of_ble_eq_true rfl)) dX8_toldAs_63) hS (fun r_7 o_8 F_9 H locs hw_10 hP hS => ?_)
      try dsimp only at hw_10
      obtain ⟨hu, hc⟩ := hw_10
      rw [in_nat2 (by omega)] at hc
      obtain ⟨h91, h92⟩ := Prod.mk.inj hu
      have h91 := h91.symm
      subst h91
      have h92 := h92.symm
      subst h92
      rcases hc with ⟨k1, w9, k2, k3⟩ | ⟨k1, k2⟩
      · skip
        subst k1
        subst k3
        refine lv_if_eq (tgt := 78) hx hb dX8_toldAs_66 (by decide) (fun c_11 => absurd c_11 (by decide)) (fun c_11 => ?_)
        refine lv_aload_n hx hb dX8_toldAs_69 rfl (lv_at hl 0 rfl) ?_
        refine m_get (v := .ref (md G 46)) hx hb htu wu_in hown hK hP 46 (by decide) (htu _ U_190) rfl rfl dX8_toldAs_70 ?_
        refine lv_iload_n hx hb dX8_toldAs_73 rfl (lv_at hl 3 rfl) ?_
        refine m_bald (j := w9) (v := F_4 46 w9) hx hb hK hP 28 46 rfl (by omega) (by decide) rfl dX8_toldAs_74 ?_
        refine lv_goto (tgt := 80) hx hb dX8_toldAs_75 (by decide) ?_
        exact m_iret (v := F_4 46 w9) hx hb hr hK hP hS hK9 dX8_toldAs_80 hlocks
      · skip
        subst k1
        refine lv_if_eq (tgt := 78) hx hb dX8_toldAs_66 (by decide) (fun c_12 => ?_) (fun c_12 => absurd (by decide) c_12)
        refine lv_bipush (v := (-9)) hx hb dX8_toldAs_78 (by decide) ?_
        exact m_iret (v := (-9)) hx hb hr hK hP hS hK9 dX8_toldAs_80 hlocks
    · skip
      refine lv_aload_n hx hb dX8_toldAs_48 rfl (lv_at hl 0 rfl) ?_
      refine m_get (v := .int (nI b9)) hx hb htu wu_in hown hK hP 47 (by decide) (htu _ U_187) rfl (m_v b9d) dX8_toldAs_49 ?_
      refine lv_goto (tgt := 80) hx hb dX8_toldAs_52 (by decide) ?_
      exact m_iret (v := nI b9) hx hb hr hK hP hS hK9 dX8_toldAs_80 hlocks
  · intro j ih9 H locs k sl g hI
    obtain ⟨i, F1, ls, hp0, hp1, rfl, rfl, hP, hS, hl, rfl⟩ := hI
    refine lv_iload hx hb dX8_toldAs_15 (lv_at hl 4 rfl) ?_
    refine lv_sipush (v := 300) hx hb dX8_toldAs_17 (by decide) ?_
    refine lv_icmp_ge (tgt := 37) hx hb dX8_toldAs_20 (by decide) (fun c_13 => absurd c_13 (nI_ge (b := 300) (by omega) (by omega))) (fun c_13 => ?_)
    refine lv_aload_n hx hb dX8_toldAs_23 rfl (lv_at hl 0 rfl) ?_
    refine m_get (v := .ref (md G 49)) hx hb htu wu_in hown hK hP 49 (by decide) (htu _ U_189) rfl rfl dX8_toldAs_24 ?_
    refine lv_iload hx hb dX8_toldAs_27 (lv_at hl 4 rfl) ?_
    refine lv_iconst (v := 0) hx hb dX8_toldAs_29 (by decide) ?_
    refine m_zast (j := i) (x := 0) hx hb hK hP hDD hS 29 49 rfl (by omega) (by decide) (mW_a49 _ _ _ _ _) dX8_toldAs_30 (fun H locs hP hS => ?_)
    refine lv_iinc (v := nI (i + 1)) (lv' := [(4, .int (nI (i + 1))), (0, .ref (mh G)), (1, .int (nI t)), (2, .int (nI way)), (3, .int y)]) hx hb dX8_toldAs_31 hl (k := 4) rfl (nI_1 i) (by decide) rfl (fun ls hl => ?_)
    refine lv_goto (tgt := 15) hx hb dX8_toldAs_34 (by decide) ?_
    exact ih9 _ _ _ _ _ ⟨i + 1, fput F1 49 i (vp_nar .boolean 0), ls, by omega, hp1.F (by decide), rfl, rfl, hP, hS, lv_sub hl [1, 2, 3, 4, 0] rfl, rfl⟩

set_option maxHeartbeats 4000000 in
set_option maxRecDepth 100000 in
/-- sign -/
theorem m_sign (l : Launch) (G : mG) (hDD : mDD G) (o : Nat → Int32) (F : Nat → Nat → Int32) (z : aS) (ix : Nat → Nat → Nat) (y : Int32) (hR : MR z ix o F) (h22 : o 22 ≠ 0 → ∃ t, o 23 = nI t ∧ t < nT z) (sz : Nat) : Met l yX8_sign (wU yX8_sign cX8_sign 2 (some .int)) { frames := 804, cells := 0, slots := 0, locals := 20147 } (mPc G o F sz [.ref (mh G), .int y]) (mQi G sz (fun r u => Kq LTa o F u)) 0 0 (mA G sz) := by
  refine Met.ofW (cc := cX8_sign) (maxL := 2) (ret := (some .int)) (by decide) rfl ?_
  intro p e s m args below meth c s₁ B hml hv
  obtain ⟨rfl, hsz, hP, hK⟩ := hv
  have hx := B.exec
  have hb := B.bytes
  have hr := B.returns
  have htu : ∀ w ∈ WU, w.before _ s = true := fun w h => atoms_spec (ws := (wU yX8_sign cX8_sign 2 (some .int))) B.pre w (List.mem_cons_of_mem _ h)
  have hown : s.vm.findClass RX8 = some m.cls := findClass_of_methodNamed B.named
  have hlocks := B.notSynchronized
  subst hsz
  have hS : va_S (mA G s.heap.size) s.heap s.heap [] := va_S.rf
  have hl := lv_entry ([.ref (mh G), .int y]) (n := 2) (Nat.le_of_ble_eq_true rfl)
  rw [lg_entry_eq]
  generalize (lg_sl ([.ref (mh G), .int y]) ++ List.replicate (2 - (lg_sl ([.ref (mh G), .int y])).length) Slot.unset).toArray = ls at hl ⊢
  have hl : lv_has ls 2 [(0, .ref (mh G)), (1, .int y)] := hl
  obtain ⟨H, hHe⟩ : ∃ H : Heap, H = s.heap := ⟨_, rfl⟩
  rw [← hHe] at hP
  have hS : va_S (mA G s.heap.size) s.heap H [] := by rw [hHe]; exact va_S.rf
  refine W.heq hHe ?_
  refine lv_aload_n hx hb dX8_sign_0 rfl (lv_at hl 0 rfl) ?_
  refine m_get (v := .int (o 22)) hx hb htu wu_in hown hK hP 22 (by decide) (htu _ U_42) rfl rfl dX8_sign_1 ?_
  refine lv_if_eq (tgt := 20) hx hb dX8_sign_4 (by decide) (fun c_1 => ?_) (fun c_1 => ?_)
  · skip
    refine lv_bipush (v := (-4)) hx hb dX8_sign_20 (by decide) ?_
    exact m_iret (v := (-4)) hx hb hr hK hP hS Kq.rf dX8_sign_22 hlocks
  · skip
    obtain ⟨t, ht23, ht⟩ := h22 c_1
    refine lv_aload_n hx hb dX8_sign_7 rfl (lv_at hl 0 rfl) ?_
    refine lv_aload_n hx hb dX8_sign_8 rfl (lv_at hl 0 rfl) ?_
    refine m_get (v := .int (nI t)) hx hb htu wu_in hown hK hP 23 (by decide) (htu _ U_62) rfl (m_v ht23) dX8_sign_9 ?_
    refine lv_iconst (v := 0) hx hb dX8_sign_12 (by decide) ?_
    refine lv_iload_n hx hb dX8_sign_13 rfl (lv_at hl 1 rfl) ?_
    refine m_ci (m_runV (As := [.int (nI t), .int 0, .int y]) (rest := []) ⟨hx, hb, hml, hown, htu⟩ (m_toldAs l G hDD o F z ix t 0 y hR ht ((by decide)) H.size) (cwV 3 htu gU_X8_toldAs rfl rfl rfl (by decide +kernel) ⟨Nat.le_of_ble_eq_true rfl, Nat.le_of_ble_eq_true rfl⟩) hP hK rfl hl.1 rfl (lv_room (Nat.le_of_ble_eq_true rfl)) dX8_sign_14) hS (fun r_2 o_3 F_4 H locs hw_5 hP hS => ?_)
    try dsimp only at hw_5
    refine lv_goto (tgt := 22) hx hb dX8_sign_17 (by decide) ?_
    exact m_iret (v := r_2) hx hb hr hK hP hS hw_5 dX8_sign_22 hlocks

theorem in_nat3 {x : Int32} {N : Nat} (hN : N ≤ 200000) : (0 ≤ x ∧ x ≤ nI N - 1) ↔ ∃ j, j < N ∧ x = nI j := by
  have e : (nI N - nI 1).toInt = (N : Int) - 1 := pk_sub_toInt (by omega) (by omega)
  have e2 : (nI N - 1 : Int32) = nI N - nI 1 := rfl
  rw [i_le, i_le, e2, e]
  have e0 : (0 : Int32).toInt = 0 := rfl
  rw [e0]
  constructor
  · rintro ⟨h1, h2⟩
    obtain ⟨j, hj, ej⟩ := nI_of (x := x) (by rw [i_lt, e0]; omega)
    have := nI_toInt hj
    rw [← ej] at this
    exact ⟨j, by omega, ej⟩
  · rintro ⟨j, hj, rfl⟩
    rw [nI_toInt (by omega)]
    omega

set_option maxHeartbeats 4000000 in
set_option maxRecDepth 100000 in
/-- bound -/
theorem m_bound (l : Launch) (G : mG) (hDD : mDD G) (o : Nat → Int32) (F : Nat → Nat → Int32) (z : aS) (ix : Nat → Nat → Nat) (x : Int32) (ab : Int32) (iv : Int32) (y : Int32) (hR : MR z ix o F) (sz : Nat) : Met l yX8_bound (wU yX8_bound cX8_bound 8 (some .int)) { frames := 804, cells := 0, slots := 0, locals := 20147 } (mPc G o F sz [.ref (mh G), .int x, .int ab, .int iv, .int y]) (mQi G sz (fun r u => Kq LTa o F u)) 0 0 (mA G sz) := by
  refine Met.ofW (cc := cX8_bound) (maxL := 8) (ret := (some .int)) (by decide) rfl ?_
  intro p e s m args below meth c s₁ B hml hv
  obtain ⟨rfl, hsz, hP, hK⟩ := hv
  have hx := B.exec
  have hb := B.bytes
  have hr := B.returns
  have htu : ∀ w ∈ WU, w.before _ s = true := fun w h => atoms_spec (ws := (wU yX8_bound cX8_bound 8 (some .int))) B.pre w (List.mem_cons_of_mem _ h)
  have hown : s.vm.findClass RX8 = some m.cls := findClass_of_methodNamed B.named
  have hlocks := B.notSynchronized
  subst hsz
  have hS : va_S (mA G s.heap.size) s.heap s.heap [] := va_S.rf
  have hl := lv_entry ([.ref (mh G), .int x, .int ab, .int iv, .int y]) (n := 8) (Nat.le_of_ble_eq_true rfl)
  rw [lg_entry_eq]
  generalize (lg_sl ([.ref (mh G), .int x, .int ab, .int iv, .int y]) ++ List.replicate (8 - (lg_sl ([.ref (mh G), .int x, .int ab, .int iv, .int y])).length) Slot.unset).toArray = ls at hl ⊢
  have hl : lv_has ls 8 [(0, .ref (mh G)), (1, .int x), (2, .int ab), (3, .int iv), (4, .int y)] := hl
  obtain ⟨H, hHe⟩ : ∃ H : Heap, H = s.heap := ⟨_, rfl⟩
  rw [← hHe] at hP
  have hS : va_S (mA G s.heap.size) s.heap H [] := by rw [hHe]; exact va_S.rf
  refine W.heq hHe ?_
  obtain ⟨b1, b2, b3, b4, b5, b6, b7, b8⟩ := hR.2.1
  refine lv_aload_n hx hb dX8_bound_0 rfl (lv_at hl 0 rfl) ?_
  refine lv_iload_n hx hb dX8_bound_1 rfl (lv_at hl 1 rfl) ?_
  refine m_ci (m_runV (As := [.int x]) (rest := []) ⟨hx, hb, hml, hown, htu⟩ (m_isVariable l G hDD o F (nV z) x hR.1.2.1 b2 H.size) (cwV 1 htu gU_X8_isVariable rfl rfl rfl (by decide +kernel) ⟨Nat.le_of_ble_eq_true rfl, Nat.le_of_ble_eq_true rfl⟩) hP hK rfl hl.1 rfl (lv_room (Nat.le_of_ble_eq_true rfl)) dX8_bound_2) hS (fun r_1 o_2 F_3 H locs hw_4 hP hS => ?_)
  try dsimp only at hw_4
  obtain ⟨hu, hc⟩ := hw_4
  obtain ⟨h91, h92⟩ := Prod.mk.inj hu
  have h91 := h91.symm
  subst h91
  have h92 := h92.symm
  subst h92
  rcases hc with ⟨g1, q, g2, g3⟩ | ⟨g1, g2⟩
  · skip
    subst g1
    subst g3
    refine lv_if_ne (tgt := 10) hx hb dX8_bound_5 (by decide) (fun c_5 => ?_) (fun c_5 => absurd c_5 (by decide))
    refine lv_iconst (v := 2) hx hb dX8_bound_10 (by decide) ?_
    refine lv_iload_n hx hb dX8_bound_11 rfl (lv_at hl 1 rfl) ?_
    refine lv_imul hx hb dX8_bound_12 ?_
    refine m_top (y := nI (2 * q)) (pk_mul 2 q) ?_
    refine lv_iload_n hx hb dX8_bound_13 rfl (lv_at hl 2 rfl) ?_
    refine lv_if_eq (tgt := 21) hx hb dX8_bound_14 (by decide) (fun c_6 => ?_) (fun c_6 => ?_)
    · skip
      refine lv_iconst (v := 0) hx hb dX8_bound_21 (by decide) ?_
      refine lv_iadd hx hb dX8_bound_22 ?_
      refine m_top (y := nI (2 * q)) (Int32.add_zero _) ?_
      obtain ⟨e1_, e2_, e3_, e4_, e5_⟩ := hR.2.2.2.2.2.2.1 q g2 0 (by decide)
      refine lv_istore (lv' := [(5, .int (nI (2 * q))), (0, .ref (mh G)), (1, .int (nI q)), (2, .int ab), (3, .int iv), (4, .int y)]) hx hb dX8_bound_23 hl (by decide) rfl (fun ls hl => ?_)
      refine lv_iload_n hx hb dX8_bound_25 rfl (lv_at hl 4 rfl) ?_
      refine lv_iconst (v := 0) hx hb dX8_bound_26 (by decide) ?_
      refine lv_aload_n hx hb dX8_bound_27 rfl (lv_at hl 1 rfl) ?_
      refine m_get (v := .ref (md G 21)) hx hb htu wu_in hown hK hP 21 (by decide) (htu _ U_116) rfl rfl dX8_bound_28 ?_
      refine lv_iload hx hb dX8_bound_31 (lv_at hl 0 rfl) ?_
      refine m_ald (j := 2 * q) (v := nI ((row z 0 (z.1 6 q)).length)) hx hb hK hP 18 21 rfl (by omega) (by decide) e1_ dX8_bound_33 ?_
      refine lv_iconst (v := 1) hx hb dX8_bound_34 (by decide) ?_
      refine lv_isub hx hb dX8_bound_35 ?_
      refine m_top (y := nI (row z 0 (z.1 6 q)).length - 1) rfl ?_
      refine m_ci (m_runS (As := [.int iv, .int 0, .int (nI (row z 0 (z.1 6 q)).length - 1)]) (rest := []) ⟨hx, hb, hml, hown, htu⟩ (m_inn l G hDD o F iv 0 ((nI (row z 0 (z.1 6 q)).length - 1)) H.size) (va_cwS 3 htu gU_X8_in rfl rfl rfl (by decide +kernel) ⟨Nat.le_of_ble_eq_true rfl, Nat.le_of_ble_eq_true rfl⟩) hP hK rfl hl.1 rfl (lv_room (Nat.le_of_ble_eq_true rfl)) dX8_bound_36) hS (fun r_7 o_8 F_9 H locs hw_10 hP hS => ?_)
      try dsimp only at hw_10
      obtain ⟨hu, hc⟩ := hw_10
      obtain ⟨h91, h92⟩ := Prod.mk.inj hu
      have h91 := h91.symm
      subst h91
      have h92 := h92.symm
      subst h92
      rcases hc with ⟨k1, k2⟩ | ⟨k1, k2⟩
      · skip
        subst k1
        obtain ⟨w9, k3, k4⟩ := (in_nat3 (show (row z 0 (z.1 6 q)).length ≤ 200000 by omega)).mp k2
        subst k4
        obtain ⟨e6_, e7_⟩ := e3_ (by omega)
        refine lv_if_ne (tgt := 45) hx hb dX8_bound_39 (by decide) (fun c_11 => ?_) (fun c_11 => absurd c_11 (by decide))
        refine lv_aload_n hx hb dX8_bound_45 rfl (lv_at hl 1 rfl) ?_
        refine m_get (v := .ref (md G 19)) hx hb htu wu_in hown hK hP 19 (by decide) (htu _ U_117) rfl rfl dX8_bound_46 ?_
        refine lv_iload hx hb dX8_bound_49 (lv_at hl 0 rfl) ?_
        refine m_ald (j := 2 * q) (v := nI (ix (2 * q + 0) 0)) hx hb hK hP 16 19 rfl (by omega) (by decide) e6_ dX8_bound_51 ?_
        refine lv_istore (lv' := [(6, .int (nI (ix (2 * q + 0) 0))), (5, .int (nI (2 * q))), (0, .ref (mh G)), (1, .int (nI q)), (2, .int ab), (3, .int (nI w9)), (4, .int y)]) hx hb dX8_bound_52 hl (by decide) rfl (fun ls hl => ?_)
        refine lv_iconst (v := 0) hx hb dX8_bound_54 (by decide) ?_
        refine lv_istore (lv' := [(7, .int 0), (6, .int (nI (ix (2 * q + 0) 0))), (5, .int (nI (2 * q))), (0, .ref (mh G)), (1, .int (nI q)), (2, .int ab), (3, .int (nI w9)), (4, .int y)]) hx hb dX8_bound_55 hl (by decide) rfl (fun ls hl => ?_)
        refine w_loop (fun j H locs k sl g => ∃ (i : Nat) (ls : Array Slot), i + j = w9 ∧ k = 0 ∧ sl = 0 ∧ mP G o F H ∧ va_S (mA G s.heap.size) s.heap H locs ∧ lv_has ls 8 [(0, .ref (mh G)), (1, .int (nI q)), (2, .int ab), (3, .int (nI w9)), (4, .int y), (5, .int (nI (2 * q))), (6, .int (nI (ix (2 * q + 0) i))), (7, .int (nI i))] ∧ g = F0 m 57 ls []) ?_ ?_ w9 _ _ _ _ _ ⟨0, ls, by omega, rfl, rfl, hP, hS, lv_sub hl [3, 4, 5, 6, 7, 2, 1, 0] rfl, rfl⟩
        · intro H locs k sl g hI
          obtain ⟨i, ls, hp0, rfl, rfl, hP, hS, hl, rfl⟩ := hI
          obtain rfl : i = w9 := by omega
          obtain ⟨y1_, y2_, y3_, y4_⟩ := e5_ i (by omega)
          refine lv_iload hx hb dX8_bound_57 (lv_at hl 7 rfl) ?_
          refine lv_iload_n hx hb dX8_bound_59 rfl (lv_at hl 3 rfl) ?_
          refine lv_icmp_ge (tgt := 78) hx hb dX8_bound_60 (by decide) (fun c_12 => ?_) (fun c_12 => absurd (nI_le (by omega) (by omega)) c_12)
          refine lv_aload_n hx hb dX8_bound_78 rfl (lv_at hl 0 rfl) ?_
          refine lv_aload_n hx hb dX8_bound_79 rfl (lv_at hl 0 rfl) ?_
          refine m_get (v := .ref (md G 17)) hx hb htu wu_in hown hK hP 17 (by decide) (htu _ U_118) rfl rfl dX8_bound_80 ?_
          refine lv_iload hx hb dX8_bound_83 (lv_at hl 6 rfl) ?_
          refine m_ald (j := ix (2 * q + 0) i) (v := nI ((row z 0 (z.1 6 q)).getD i 0)) hx hb hK hP 14 17 rfl (by omega) (by decide) y2_ dX8_bound_85 ?_
          refine lv_iload_n hx hb dX8_bound_86 rfl (lv_at hl 2 rfl) ?_
          refine lv_if_eq (tgt := 94) hx hb dX8_bound_87 (by decide) (fun c_13 => ?_) (fun c_13 => absurd c_6 c_13)
          refine lv_iconst (v := 0) hx hb dX8_bound_94 (by decide) ?_
          refine lv_iload hx hb dX8_bound_95 (lv_at hl 4 rfl) ?_
          refine m_ci (m_runV (As := [.int (nI ((row z 0 (z.1 6 q)).getD i 0)), .int 0, .int y]) (rest := []) ⟨hx, hb, hml, hown, htu⟩ (m_toldAs l G hDD o F z ix ((row z 0 (z.1 6 q)).getD i 0) 0 y hR y3_ ((by decide)) H.size) (cwV 3 htu gU_X8_toldAs rfl rfl rfl (by decide +kernel) ⟨Nat.le_of_ble_eq_true rfl, Nat.le_of_ble_eq_true rfl⟩) hP hK rfl hl.1 rfl (lv_room (Nat.le_of_ble_eq_true rfl)) dX8_bound_97) hS (fun r_14 o_15 F_16 H locs hw_17 hP hS => ?_)
          try dsimp only at hw_17
          exact m_iret (v := r_14) hx hb hr hK hP hS hw_17 dX8_bound_100 hlocks
        · intro j ih9 H locs k sl g hI
          obtain ⟨i, ls, hp0, rfl, rfl, hP, hS, hl, rfl⟩ := hI
          obtain ⟨y1_, y2_, y3_, y4_⟩ := e5_ i (by omega)
          refine lv_iload hx hb dX8_bound_57 (lv_at hl 7 rfl) ?_
          refine lv_iload_n hx hb dX8_bound_59 rfl (lv_at hl 3 rfl) ?_
          refine lv_icmp_ge (tgt := 78) hx hb dX8_bound_60 (by decide) (fun c_18 => absurd c_18 (nI_ge (by omega) (by omega))) (fun c_18 => ?_)
          refine lv_aload_n hx hb dX8_bound_63 rfl (lv_at hl 0 rfl) ?_
          refine m_get (v := .ref (md G 18)) hx hb htu wu_in hown hK hP 18 (by decide) (htu _ U_119) rfl rfl dX8_bound_64 ?_
          refine lv_iload hx hb dX8_bound_67 (lv_at hl 6 rfl) ?_
          refine m_ald (j := ix (2 * q + 0) i) (v := nI (ix (2 * q + 0) (i + 1))) hx hb hK hP 15 18 rfl (by omega) (by decide) (y4_.trans (if_pos (by omega))) dX8_bound_69 ?_
          refine lv_istore (lv' := [(6, .int (nI (ix (2 * q + 0) (i + 1)))), (0, .ref (mh G)), (1, .int (nI q)), (2, .int ab), (3, .int (nI w9)), (4, .int y), (5, .int (nI (2 * q))), (7, .int (nI i))]) hx hb dX8_bound_70 hl (by decide) rfl (fun ls hl => ?_)
          refine lv_iinc (v := nI (i + 1)) (lv' := [(7, .int (nI (i + 1))), (6, .int (nI (ix (2 * q + 0) (i + 1)))), (0, .ref (mh G)), (1, .int (nI q)), (2, .int ab), (3, .int (nI w9)), (4, .int y), (5, .int (nI (2 * q)))]) hx hb dX8_bound_72 hl (k := 7) rfl (nI_1 i) (by decide) rfl (fun ls hl => ?_)
          refine lv_goto (tgt := 57) hx hb dX8_bound_75 (by decide) ?_
          exact ih9 _ _ _ _ _ ⟨i + 1, ls, by omega, rfl, rfl, hP, hS, lv_sub hl [2, 3, 4, 5, 6, 7, 1, 0] rfl, rfl⟩
      · skip
        subst k1
        refine lv_if_ne (tgt := 45) hx hb dX8_bound_39 (by decide) (fun c_19 => absurd (by decide) c_19) (fun c_19 => ?_)
        refine lv_bipush (v := (-9)) hx hb dX8_bound_42 (by decide) ?_
        exact m_iret (v := (-9)) hx hb hr hK hP hS Kq.rf dX8_bound_44 hlocks
    · skip
      refine lv_iconst (v := 1) hx hb dX8_bound_17 (by decide) ?_
      refine lv_goto (tgt := 22) hx hb dX8_bound_18 (by decide) ?_
      refine lv_iadd hx hb dX8_bound_22 ?_
      refine m_top (y := nI (2 * q + 1)) (nI_add (2 * q) 1) ?_
      obtain ⟨e1_, e2_, e3_, e4_, e5_⟩ := hR.2.2.2.2.2.2.1 q g2 1 (by decide)
      refine lv_istore (lv' := [(5, .int (nI (2 * q + 1))), (0, .ref (mh G)), (1, .int (nI q)), (2, .int ab), (3, .int iv), (4, .int y)]) hx hb dX8_bound_23 hl (by decide) rfl (fun ls hl => ?_)
      refine lv_iload_n hx hb dX8_bound_25 rfl (lv_at hl 4 rfl) ?_
      refine lv_iconst (v := 0) hx hb dX8_bound_26 (by decide) ?_
      refine lv_aload_n hx hb dX8_bound_27 rfl (lv_at hl 1 rfl) ?_
      refine m_get (v := .ref (md G 21)) hx hb htu wu_in hown hK hP 21 (by decide) (htu _ U_116) rfl rfl dX8_bound_28 ?_
      refine lv_iload hx hb dX8_bound_31 (lv_at hl 0 rfl) ?_
      refine m_ald (j := 2 * q + 1) (v := nI ((row z 1 (z.1 6 q)).length)) hx hb hK hP 18 21 rfl (by omega) (by decide) e1_ dX8_bound_33 ?_
      refine lv_iconst (v := 1) hx hb dX8_bound_34 (by decide) ?_
      refine lv_isub hx hb dX8_bound_35 ?_
      refine m_top (y := nI (row z 1 (z.1 6 q)).length - 1) rfl ?_
      refine m_ci (m_runS (As := [.int iv, .int 0, .int (nI (row z 1 (z.1 6 q)).length - 1)]) (rest := []) ⟨hx, hb, hml, hown, htu⟩ (m_inn l G hDD o F iv 0 ((nI (row z 1 (z.1 6 q)).length - 1)) H.size) (va_cwS 3 htu gU_X8_in rfl rfl rfl (by decide +kernel) ⟨Nat.le_of_ble_eq_true rfl, Nat.le_of_ble_eq_true rfl⟩) hP hK rfl hl.1 rfl (lv_room (Nat.le_of_ble_eq_true rfl)) dX8_bound_36) hS (fun r_20 o_21 F_22 H locs hw_23 hP hS => ?_)
      try dsimp only at hw_23
      obtain ⟨hu, hc⟩ := hw_23
      obtain ⟨h91, h92⟩ := Prod.mk.inj hu
      have h91 := h91.symm
      subst h91
      have h92 := h92.symm
      subst h92
      rcases hc with ⟨k1, k2⟩ | ⟨k1, k2⟩
      · skip
        subst k1
        obtain ⟨w9, k3, k4⟩ := (in_nat3 (show (row z 1 (z.1 6 q)).length ≤ 200000 by omega)).mp k2
        subst k4
        obtain ⟨e6_, e7_⟩ := e3_ (by omega)
        refine lv_if_ne (tgt := 45) hx hb dX8_bound_39 (by decide) (fun c_24 => ?_) (fun c_24 => absurd c_24 (by decide))
        refine lv_aload_n hx hb dX8_bound_45 rfl (lv_at hl 1 rfl) ?_
        refine m_get (v := .ref (md G 19)) hx hb htu wu_in hown hK hP 19 (by decide) (htu _ U_117) rfl rfl dX8_bound_46 ?_
        refine lv_iload hx hb dX8_bound_49 (lv_at hl 0 rfl) ?_
        refine m_ald (j := 2 * q + 1) (v := nI (ix (2 * q + 1) 0)) hx hb hK hP 16 19 rfl (by omega) (by decide) e6_ dX8_bound_51 ?_
        refine lv_istore (lv' := [(6, .int (nI (ix (2 * q + 1) 0))), (5, .int (nI (2 * q + 1))), (0, .ref (mh G)), (1, .int (nI q)), (2, .int ab), (3, .int (nI w9)), (4, .int y)]) hx hb dX8_bound_52 hl (by decide) rfl (fun ls hl => ?_)
        refine lv_iconst (v := 0) hx hb dX8_bound_54 (by decide) ?_
        refine lv_istore (lv' := [(7, .int 0), (6, .int (nI (ix (2 * q + 1) 0))), (5, .int (nI (2 * q + 1))), (0, .ref (mh G)), (1, .int (nI q)), (2, .int ab), (3, .int (nI w9)), (4, .int y)]) hx hb dX8_bound_55 hl (by decide) rfl (fun ls hl => ?_)
        refine w_loop (fun j H locs k sl g => ∃ (i : Nat) (ls : Array Slot), i + j = w9 ∧ k = 0 ∧ sl = 0 ∧ mP G o F H ∧ va_S (mA G s.heap.size) s.heap H locs ∧ lv_has ls 8 [(0, .ref (mh G)), (1, .int (nI q)), (2, .int ab), (3, .int (nI w9)), (4, .int y), (5, .int (nI (2 * q + 1))), (6, .int (nI (ix (2 * q + 1) i))), (7, .int (nI i))] ∧ g = F0 m 57 ls []) ?_ ?_ w9 _ _ _ _ _ ⟨0, ls, by omega, rfl, rfl, hP, hS, lv_sub hl [3, 4, 5, 6, 7, 2, 1, 0] rfl, rfl⟩
        · intro H locs k sl g hI
          obtain ⟨i, ls, hp0, rfl, rfl, hP, hS, hl, rfl⟩ := hI
          obtain rfl : i = w9 := by omega
          obtain ⟨y1_, y2_, y3_, y4_⟩ := e5_ i (by omega)
          refine lv_iload hx hb dX8_bound_57 (lv_at hl 7 rfl) ?_
          refine lv_iload_n hx hb dX8_bound_59 rfl (lv_at hl 3 rfl) ?_
          refine lv_icmp_ge (tgt := 78) hx hb dX8_bound_60 (by decide) (fun c_25 => ?_) (fun c_25 => absurd (nI_le (by omega) (by omega)) c_25)
          refine lv_aload_n hx hb dX8_bound_78 rfl (lv_at hl 0 rfl) ?_
          refine lv_aload_n hx hb dX8_bound_79 rfl (lv_at hl 0 rfl) ?_
          refine m_get (v := .ref (md G 17)) hx hb htu wu_in hown hK hP 17 (by decide) (htu _ U_118) rfl rfl dX8_bound_80 ?_
          refine lv_iload hx hb dX8_bound_83 (lv_at hl 6 rfl) ?_
          refine m_ald (j := ix (2 * q + 1) i) (v := nI ((row z 1 (z.1 6 q)).getD i 0)) hx hb hK hP 14 17 rfl (by omega) (by decide) y2_ dX8_bound_85 ?_
          refine lv_iload_n hx hb dX8_bound_86 rfl (lv_at hl 2 rfl) ?_
          refine lv_if_eq (tgt := 94) hx hb dX8_bound_87 (by decide) (fun c_26 => absurd c_26 c_6) (fun c_26 => ?_)
          refine lv_iconst (v := 1) hx hb dX8_bound_90 (by decide) ?_
          refine lv_goto (tgt := 95) hx hb dX8_bound_91 (by decide) ?_
          refine lv_iload hx hb dX8_bound_95 (lv_at hl 4 rfl) ?_
          refine m_ci (m_runV (As := [.int (nI ((row z 1 (z.1 6 q)).getD i 0)), .int 1, .int y]) (rest := []) ⟨hx, hb, hml, hown, htu⟩ (m_toldAs l G hDD o F z ix ((row z 1 (z.1 6 q)).getD i 0) 1 y hR y3_ ((by decide)) H.size) (cwV 3 htu gU_X8_toldAs rfl rfl rfl (by decide +kernel) ⟨Nat.le_of_ble_eq_true rfl, Nat.le_of_ble_eq_true rfl⟩) hP hK rfl hl.1 rfl (lv_room (Nat.le_of_ble_eq_true rfl)) dX8_bound_97) hS (fun r_27 o_28 F_29 H locs hw_30 hP hS => ?_)
          try dsimp only at hw_30
          exact m_iret (v := r_27) hx hb hr hK hP hS hw_30 dX8_bound_100 hlocks
        · intro j ih9 H locs k sl g hI
          obtain ⟨i, ls, hp0, rfl, rfl, hP, hS, hl, rfl⟩ := hI
          obtain ⟨y1_, y2_, y3_, y4_⟩ := e5_ i (by omega)
          refine lv_iload hx hb dX8_bound_57 (lv_at hl 7 rfl) ?_
          refine lv_iload_n hx hb dX8_bound_59 rfl (lv_at hl 3 rfl) ?_
          refine lv_icmp_ge (tgt := 78) hx hb dX8_bound_60 (by decide) (fun c_31 => absurd c_31 (nI_ge (by omega) (by omega))) (fun c_31 => ?_)
          refine lv_aload_n hx hb dX8_bound_63 rfl (lv_at hl 0 rfl) ?_
          refine m_get (v := .ref (md G 18)) hx hb htu wu_in hown hK hP 18 (by decide) (htu _ U_119) rfl rfl dX8_bound_64 ?_
          refine lv_iload hx hb dX8_bound_67 (lv_at hl 6 rfl) ?_
          refine m_ald (j := ix (2 * q + 1) i) (v := nI (ix (2 * q + 1) (i + 1))) hx hb hK hP 15 18 rfl (by omega) (by decide) (y4_.trans (if_pos (by omega))) dX8_bound_69 ?_
          refine lv_istore (lv' := [(6, .int (nI (ix (2 * q + 1) (i + 1)))), (0, .ref (mh G)), (1, .int (nI q)), (2, .int ab), (3, .int (nI w9)), (4, .int y), (5, .int (nI (2 * q + 1))), (7, .int (nI i))]) hx hb dX8_bound_70 hl (by decide) rfl (fun ls hl => ?_)
          refine lv_iinc (v := nI (i + 1)) (lv' := [(7, .int (nI (i + 1))), (6, .int (nI (ix (2 * q + 1) (i + 1)))), (0, .ref (mh G)), (1, .int (nI q)), (2, .int ab), (3, .int (nI w9)), (4, .int y), (5, .int (nI (2 * q + 1)))]) hx hb dX8_bound_72 hl (k := 7) rfl (nI_1 i) (by decide) rfl (fun ls hl => ?_)
          refine lv_goto (tgt := 57) hx hb dX8_bound_75 (by decide) ?_
          exact ih9 _ _ _ _ _ ⟨i + 1, ls, by omega, rfl, rfl, hP, hS, lv_sub hl [2, 3, 4, 5, 6, 7, 1, 0] rfl, rfl⟩
      · skip
        subst k1
        refine lv_if_ne (tgt := 45) hx hb dX8_bound_39 (by decide) (fun c_32 => absurd (by decide) c_32) (fun c_32 => ?_)
        refine lv_bipush (v := (-9)) hx hb dX8_bound_42 (by decide) ?_
        exact m_iret (v := (-9)) hx hb hr hK hP hS Kq.rf dX8_bound_44 hlocks
  · skip
    subst g1
    refine lv_if_ne (tgt := 10) hx hb dX8_bound_5 (by decide) (fun c_33 => absurd (by decide) c_33) (fun c_33 => ?_)
    refine lv_iconst (v := (-1)) hx hb dX8_bound_8 (by decide) ?_
    exact m_iret (v := (-1)) hx hb hr hK hP hS Kq.rf dX8_bound_9 hlocks

