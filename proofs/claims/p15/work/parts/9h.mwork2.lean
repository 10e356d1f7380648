theorem dX8_does_0 : decode cX8_does 0 = .ok (.aload_n 0, 1) := by decide +kernel
theorem dX8_does_1 : decode cX8_does 1 = .ok (.getfield 331, 3) := by decide +kernel
theorem dX8_does_4 : decode cX8_does 4 = .ok (.ifCond .ne 6, 3) := by decide +kernel
theorem dX8_does_10 : decode cX8_does 10 = .ok (.aload_n 0, 1) := by decide +kernel
theorem dX8_does_11 : decode cX8_does 11 = .ok (.getfield 334, 3) := by decide +kernel
theorem dX8_does_14 : decode cX8_does 14 = .ok (.aload_n 0, 1) := by decide +kernel
theorem dX8_does_15 : decode cX8_does 15 = .ok (.getfield 337, 3) := by decide +kernel
theorem dX8_does_18 : decode cX8_does 18 = .ok (.if_icmp .eq 12, 3) := by decide +kernel
theorem dX8_does_30 : decode cX8_does 30 = .ok (.aload_n 0, 1) := by decide +kernel
theorem dX8_does_31 : decode cX8_does 31 = .ok (.iconst 2, 1) := by decide +kernel
theorem dX8_does_32 : decode cX8_does 32 = .ok (.iload_n 1, 1) := by decide +kernel
theorem dX8_does_33 : decode cX8_does 33 = .ok (.invokevirtual 343, 3) := by decide +kernel
theorem dX8_does_36 : decode cX8_does 36 = .ok (.ireturn, 1) := by decide +kernel
theorem dX8_does_21 : decode cX8_does 21 = .ok (.aload_n 0, 1) := by decide +kernel
theorem dX8_does_22 : decode cX8_does 22 = .ok (.getfield 340, 3) := by decide +kernel
theorem dX8_does_25 : decode cX8_does 25 = .ok (.bipush 60, 2) := by decide +kernel
theorem dX8_does_27 : decode cX8_does 27 = .ok (.if_icmp .ne 10, 3) := by decide +kernel
theorem dX8_does_7 : decode cX8_does 7 = .ok (.bipush (-9), 2) := by decide +kernel
theorem dX8_does_9 : decode cX8_does 9 = .ok (.ireturn, 1) := by decide +kernel
theorem dX8_does_37 : decode cX8_does 37 = .ok (.aload_n 0, 1) := by decide +kernel
theorem dX8_does_38 : decode cX8_does 38 = .ok (.dup, 1) := by decide +kernel
theorem dX8_does_39 : decode cX8_does 39 = .ok (.getfield 334, 3) := by decide +kernel
theorem dX8_does_42 : decode cX8_does 42 = .ok (.iconst 1, 1) := by decide +kernel
theorem dX8_does_43 : decode cX8_does 43 = .ok (.iadd, 1) := by decide +kernel
theorem dX8_does_44 : decode cX8_does 44 = .ok (.putfield 334, 3) := by decide +kernel
theorem dX8_does_47 : decode cX8_does 47 = .ok (.aload_n 0, 1) := by decide +kernel
theorem dX8_does_48 : decode cX8_does 48 = .ok (.dup, 1) := by decide +kernel
theorem dX8_does_49 : decode cX8_does 49 = .ok (.getfield 340, 3) := by decide +kernel
theorem dX8_does_52 : decode cX8_does 52 = .ok (.iconst 1, 1) := by decide +kernel
theorem dX8_does_53 : decode cX8_does 53 = .ok (.iadd, 1) := by decide +kernel
theorem dX8_does_54 : decode cX8_does 54 = .ok (.putfield 340, 3) := by decide +kernel
theorem dX8_does_57 : decode cX8_does 57 = .ok (.aload_n 0, 1) := by decide +kernel
theorem dX8_does_58 : decode cX8_does 58 = .ok (.iload_n 1, 1) := by decide +kernel
theorem dX8_does_59 : decode cX8_does 59 = .ok (.iload_n 2, 1) := by decide +kernel
theorem dX8_does_60 : decode cX8_does 60 = .ok (.invokevirtual 346, 3) := by decide +kernel
theorem dX8_does_63 : decode cX8_does 63 = .ok (.istore_n 3, 1) := by decide +kernel
theorem dX8_does_64 : decode cX8_does 64 = .ok (.aload_n 0, 1) := by decide +kernel
theorem dX8_does_65 : decode cX8_does 65 = .ok (.dup, 1) := by decide +kernel
theorem dX8_does_66 : decode cX8_does 66 = .ok (.getfield 340, 3) := by decide +kernel
theorem dX8_does_69 : decode cX8_does 69 = .ok (.iconst 1, 1) := by decide +kernel
theorem dX8_does_70 : decode cX8_does 70 = .ok (.isub, 1) := by decide +kernel
theorem dX8_does_71 : decode cX8_does 71 = .ok (.putfield 340, 3) := by decide +kernel
theorem dX8_does_74 : decode cX8_does 74 = .ok (.aload_n 0, 1) := by decide +kernel
theorem dX8_does_75 : decode cX8_does 75 = .ok (.getfield 331, 3) := by decide +kernel
theorem dX8_does_78 : decode cX8_does 78 = .ok (.ifCond .eq 7, 3) := by decide +kernel
theorem dX8_does_85 : decode cX8_does 85 = .ok (.bipush (-9), 2) := by decide +kernel
theorem dX8_does_87 : decode cX8_does 87 = .ok (.ireturn, 1) := by decide +kernel
theorem dX8_does_81 : decode cX8_does 81 = .ok (.iload_n 3, 1) := by decide +kernel
theorem dX8_does_82 : decode cX8_does 82 = .ok (.goto 5, 3) := by decide +kernel
def mDoesAt (fu : Nat) : Prop := ∀ (l : Launch) (G : mG) (hDD : mDD G) (o : Nat → Int32) (F : Nat → Nat → Int32) (tr : aM) (N : Nat) (gd : Nat → Prop) (vs : Nat) (es : Nat) (wk : Nat) (ms : Nat) (n : Nat) (ev : Int32) (hT : TRm tr N o F) (hW : WS tr N gd vs es wk ms o F) (hvs : vs ≤ wk) (hes : es ≤ wk) (hn : n < N) (he : EO es ev) (hd : o 64 = nI (60 - fu)) (hfu : fu ≤ 60) (sz : Nat), Met l yX8_does (wU yX8_does cX8_does 4 (some .int)) { frames := 3 * fu + 3, cells := 0, slots := 0, locals := 80 * fu + 100 } (mPc G o F sz [.ref (mh G), .int (nI n), .int ev]) (mQi G sz (fun r u => WQ tr N gd vs es wk ms 0 o F r u)) 0 0 (mA G sz)

def mSeenAt (fu : Nat) : Prop := ∀ (l : Launch) (G : mG) (hDD : mDD G) (o : Nat → Int32) (F : Nat → Nat → Int32) (tr : aM) (N : Nat) (gd : Nat → Prop) (vs : Nat) (es : Nat) (wk : Nat) (ms : Nat) (n : Nat) (ev : Int32) (hT : TRm tr N o F) (hW : WS tr N gd vs es wk ms o F) (hvs : vs ≤ wk) (hes : es ≤ wk) (hn : n < N) (he : EO es ev) (hd : o 64 = nI (60 - fu)) (hfu : fu ≤ 60) (sz : Nat), Met l yX8_seen (wU yX8_seen cX8_seen 4 (some .int)) { frames := 3 * fu + 4, cells := 0, slots := 0, locals := 80 * fu + 123 } (mPc G o F sz [.ref (mh G), .int (nI n), .int ev]) (mQi G sz (fun r u => WQ tr N gd vs es wk ms 0 o F r u)) 0 0 (mA G sz)

def mDoingAt (fu : Nat) : Prop := ∀ (l : Launch) (G : mG) (hDD : mDD G) (o : Nat → Int32) (F : Nat → Nat → Int32) (tr : aM) (N : Nat) (gd : Nat → Prop) (vs : Nat) (es : Nat) (wk : Nat) (ms : Nat) (n : Nat) (ev : Int32) (hT : TRm tr N o F) (hW : WS tr N gd vs es wk ms o F) (hvs : vs + 1 ≤ wk) (hes : es + 1 ≤ wk) (hn : n < N) (he : EO es ev) (hd : o 64 = nI (60 - fu)) (hfu : fu ≤ 60) (sz : Nat), Met l yX8_doing (wU yX8_doing cX8_doing 7 (some .int)) { frames := 3 * fu + 5, cells := 0, slots := 0, locals := 80 * fu + 146 } (mPc G o F sz [.ref (mh G), .int (nI n), .int ev]) (mQi G sz (fun r u => WQ tr N gd vs es wk ms 1 o F r u)) 0 0 (mA G sz)

set_option maxHeartbeats 4000000 in
set_option maxRecDepth 100000 in
/-- does, too deep -/
theorem m_does_0 (l : Launch) (G : mG) (hDD : mDD G) (o : Nat → Int32) (F : Nat → Nat → Int32) (tr : aM) (N : Nat) (gd : Nat → Prop) (vs : Nat) (es : Nat) (wk : Nat) (ms : Nat) (n : Nat) (ev : Int32) (hT : TRm tr N o F) (hW : WS tr N gd vs es wk ms o F) (hvs : vs ≤ wk) (hes : es ≤ wk) (hn : n < N) (he : EO es ev) (hd : o 64 = nI (60 - 0)) (hfu : 0 ≤ 60) (sz : Nat) : Met l yX8_does (wU yX8_does cX8_does 4 (some .int)) { frames := 3 * 0 + 3, cells := 0, slots := 0, locals := 80 * 0 + 100 } (mPc G o F sz [.ref (mh G), .int (nI n), .int ev]) (mQi G sz (fun r u => WQ tr N gd vs es wk ms 0 o F r u)) 0 0 (mA G sz) := by
  refine Met.ofW (cc := cX8_does) (maxL := 4) (ret := (some .int)) (by decide) rfl ?_
  intro p e s m args below meth c s₁ B hml hv
  obtain ⟨rfl, hsz, hP, hK⟩ := hv
  have hx := B.exec
  have hb := B.bytes
  have hr := B.returns
  have htu : ∀ w ∈ WU, w.before _ s = true := fun w h => atoms_spec (ws := (wU yX8_does cX8_does 4 (some .int))) B.pre w (List.mem_cons_of_mem _ h)
  have hown : s.vm.findClass RX8 = some m.cls := findClass_of_methodNamed B.named
  have hlocks := B.notSynchronized
  subst hsz
  have hS : va_S (mA G s.heap.size) s.heap s.heap [] := va_S.rf
  have hl := lv_entry ([.ref (mh G), .int (nI n), .int ev]) (n := 4) (Nat.le_of_ble_eq_true rfl)
  rw [lg_entry_eq]
  generalize (lg_sl ([.ref (mh G), .int (nI n), .int ev]) ++ List.replicate (4 - (lg_sl ([.ref (mh G), .int (nI n), .int ev])).length) Slot.unset).toArray = ls at hl ⊢
  have hl : lv_has ls 4 [(0, .ref (mh G)), (1, .int (nI n)), (2, .int ev)] := hl
  obtain ⟨H, hHe⟩ : ∃ H : Heap, H = s.heap := ⟨_, rfl⟩
  rw [← hHe] at hP
  have hS : va_S (mA G s.heap.size) s.heap H [] := by rw [hHe]; exact va_S.rf
  refine W.heq hHe ?_
  have hN := hT.2.1
  obtain ⟨a1_, a2_, a3_, a4_, a5_, a6_⟩ := hW.1
  refine lv_aload_n hx hb dX8_does_0 rfl (lv_at hl 0 rfl) ?_
  refine m_get (v := .int (o 67)) hx hb htu wu_in hown hK hP 67 (by decide) (htu _ U_221) rfl rfl dX8_does_1 ?_
  refine lv_if_ne (tgt := 10) hx hb dX8_does_4 (by decide) (fun c_1 => ?_) (fun c_1 => ?_)
  · skip
    refine lv_aload_n hx hb dX8_does_10 rfl (lv_at hl 0 rfl) ?_
    refine m_get (v := .int (nI wk)) hx hb htu wu_in hown hK hP 62 (by decide) (htu _ U_218) rfl (m_v a3_) dX8_does_11 ?_
    refine lv_aload_n hx hb dX8_does_14 rfl (lv_at hl 0 rfl) ?_
    refine m_get (v := .int (nI ms)) hx hb htu wu_in hown hK hP 63 (by decide) (htu _ U_219) rfl (m_v a4_) dX8_does_15 ?_
    refine lv_icmp_eq (tgt := 30) hx hb dX8_does_18 (by decide) (fun c_2 => ?_) (fun c_2 => ?_)
    · skip
      have nc_2 : wk = ms := (nI_eq (a := wk) (b := ms) (by omega) (by omega)).mp c_2
      refine lv_aload_n hx hb dX8_does_30 rfl (lv_at hl 0 rfl) ?_
      refine lv_iconst (v := 2) hx hb dX8_does_31 (by decide) ?_
      refine lv_iload_n hx hb dX8_does_32 rfl (lv_at hl 1 rfl) ?_
      refine m_ci (m_runV (As := [.int 2, .int (nI n)]) (rest := []) ⟨hx, hb, hml, hown, htu⟩ (m_halts l G hDD o F 2 (nI n) H.size) (cwV 2 htu gU_X8_halts rfl rfl rfl (by decide +kernel) ⟨show 0 + 1 ≤ 3 * 0 + 3 by omega, show 8 + (3 + 11) + 0 ≤ 80 * 0 + 100 by omega⟩) hP hK rfl hl.1 rfl (lv_room (Nat.le_of_ble_eq_true rfl)) dX8_does_33) hS (fun r_3 o_4 F_5 H locs hw_6 hP hS => ?_)
      try dsimp only at hw_6
      obtain ⟨m_7K, m_7z⟩ := (WK.rf hW).halt (by decide) hw_6.2
      exact m_iret (v := r_3) hx hb hr hK hP hS ⟨_, _, _, _, _, _, by omega, by omega, m_7K, (fun h => absurd m_7z h)⟩ dX8_does_36 hlocks
    · skip
      have nc_2 : ¬ wk = ms := fun h9 => c_2 ((nI_eq (a := wk) (b := ms) (by omega) (by omega)).mpr h9)
      refine lv_aload_n hx hb dX8_does_21 rfl (lv_at hl 0 rfl) ?_
      refine m_get (v := .int 60) hx hb htu wu_in hown hK hP 64 (by decide) (htu _ U_220) rfl (m_v hd) dX8_does_22 ?_
      refine lv_bipush (v := 60) hx hb dX8_does_25 (by decide) ?_
      refine lv_icmp_ne (tgt := 37) hx hb dX8_does_27 (by decide) (fun c_8 => absurd (by decide) c_8) (fun c_8 => ?_)
      refine lv_aload_n hx hb dX8_does_30 rfl (lv_at hl 0 rfl) ?_
      refine lv_iconst (v := 2) hx hb dX8_does_31 (by decide) ?_
      refine lv_iload_n hx hb dX8_does_32 rfl (lv_at hl 1 rfl) ?_
      refine m_ci (m_runV (As := [.int 2, .int (nI n)]) (rest := []) ⟨hx, hb, hml, hown, htu⟩ (m_halts l G hDD o F 2 (nI n) H.size) (cwV 2 htu gU_X8_halts rfl rfl rfl (by decide +kernel) ⟨show 0 + 1 ≤ 3 * 0 + 3 by omega, show 8 + (3 + 11) + 0 ≤ 80 * 0 + 100 by omega⟩) hP hK rfl hl.1 rfl (lv_room (Nat.le_of_ble_eq_true rfl)) dX8_does_33) hS (fun r_9 o_10 F_11 H locs hw_12 hP hS => ?_)
      try dsimp only at hw_12
      obtain ⟨m_13K, m_13z⟩ := (WK.rf hW).halt (by decide) hw_12.2
      exact m_iret (v := r_9) hx hb hr hK hP hS ⟨_, _, _, _, _, _, by omega, by omega, m_13K, (fun h => absurd m_13z h)⟩ dX8_does_36 hlocks
  · skip
    refine lv_bipush (v := (-9)) hx hb dX8_does_7 (by decide) ?_
    exact m_iret (v := (-9)) hx hb hr hK hP hS ⟨_, _, _, _, _, _, by omega, by omega, (WK.rf hW), (fun h => absurd c_1 h)⟩ dX8_does_9 hlocks

set_option maxHeartbeats 4000000 in
set_option maxRecDepth 100000 in
/-- does, one deeper -/
theorem m_does_s (l : Launch) (G : mG) (hDD : mDD G) (o : Nat → Int32) (F : Nat → Nat → Int32) (fu : Nat) (tr : aM) (N : Nat) (gd : Nat → Prop) (vs : Nat) (es : Nat) (wk : Nat) (ms : Nat) (n : Nat) (ev : Int32) (hG : mDoingAt fu) (hT : TRm tr N o F) (hW : WS tr N gd vs es wk ms o F) (hvs : vs ≤ wk) (hes : es ≤ wk) (hn : n < N) (he : EO es ev) (hd : o 64 = nI (60 - (fu + 1))) (hfu : fu + 1 ≤ 60) (sz : Nat) : Met l yX8_does (wU yX8_does cX8_does 4 (some .int)) { frames := 3 * (fu + 1) + 3, cells := 0, slots := 0, locals := 80 * (fu + 1) + 100 } (mPc G o F sz [.ref (mh G), .int (nI n), .int ev]) (mQi G sz (fun r u => WQ tr N gd vs es wk ms 0 o F r u)) 0 0 (mA G sz) := by
  refine Met.ofW (cc := cX8_does) (maxL := 4) (ret := (some .int)) (by decide) rfl ?_
  intro p e s m args below meth c s₁ B hml hv
  obtain ⟨rfl, hsz, hP, hK⟩ := hv
  have hx := B.exec
  have hb := B.bytes
  have hr := B.returns
  have htu : ∀ w ∈ WU, w.before _ s = true := fun w h => atoms_spec (ws := (wU yX8_does cX8_does 4 (some .int))) B.pre w (List.mem_cons_of_mem _ h)
  have hown : s.vm.findClass RX8 = some m.cls := findClass_of_methodNamed B.named
  have hlocks := B.notSynchronized
  subst hsz
  have hS : va_S (mA G s.heap.size) s.heap s.heap [] := va_S.rf
  have hl := lv_entry ([.ref (mh G), .int (nI n), .int ev]) (n := 4) (Nat.le_of_ble_eq_true rfl)
  rw [lg_entry_eq]
  generalize (lg_sl ([.ref (mh G), .int (nI n), .int ev]) ++ List.replicate (4 - (lg_sl ([.ref (mh G), .int (nI n), .int ev])).length) Slot.unset).toArray = ls at hl ⊢
  have hl : lv_has ls 4 [(0, .ref (mh G)), (1, .int (nI n)), (2, .int ev)] := hl
  obtain ⟨H, hHe⟩ : ∃ H : Heap, H = s.heap := ⟨_, rfl⟩
  rw [← hHe] at hP
  have hS : va_S (mA G s.heap.size) s.heap H [] := by rw [hHe]; exact va_S.rf
  refine W.heq hHe ?_
  have hN := hT.2.1
  obtain ⟨a1_, a2_, a3_, a4_, a5_, a6_⟩ := hW.1
  refine lv_aload_n hx hb dX8_does_0 rfl (lv_at hl 0 rfl) ?_
  refine m_get (v := .int (o 67)) hx hb htu wu_in hown hK hP 67 (by decide) (htu _ U_221) rfl rfl dX8_does_1 ?_
  refine lv_if_ne (tgt := 10) hx hb dX8_does_4 (by decide) (fun c_1 => ?_) (fun c_1 => ?_)
  · skip
    refine lv_aload_n hx hb dX8_does_10 rfl (lv_at hl 0 rfl) ?_
    refine m_get (v := .int (nI wk)) hx hb htu wu_in hown hK hP 62 (by decide) (htu _ U_218) rfl (m_v a3_) dX8_does_11 ?_
    refine lv_aload_n hx hb dX8_does_14 rfl (lv_at hl 0 rfl) ?_
    refine m_get (v := .int (nI ms)) hx hb htu wu_in hown hK hP 63 (by decide) (htu _ U_219) rfl (m_v a4_) dX8_does_15 ?_
    refine lv_icmp_eq (tgt := 30) hx hb dX8_does_18 (by decide) (fun c_2 => ?_) (fun c_2 => ?_)
    · skip
      have nc_2 : wk = ms := (nI_eq (a := wk) (b := ms) (by omega) (by omega)).mp c_2
      refine lv_aload_n hx hb dX8_does_30 rfl (lv_at hl 0 rfl) ?_
      refine lv_iconst (v := 2) hx hb dX8_does_31 (by decide) ?_
      refine lv_iload_n hx hb dX8_does_32 rfl (lv_at hl 1 rfl) ?_
      refine m_ci (m_runV (As := [.int 2, .int (nI n)]) (rest := []) ⟨hx, hb, hml, hown, htu⟩ (m_halts l G hDD o F 2 (nI n) H.size) (cwV 2 htu gU_X8_halts rfl rfl rfl (by decide +kernel) ⟨show 0 + 1 ≤ 3 * (fu + 1) + 3 by omega, show 8 + (3 + 11) + 0 ≤ 80 * (fu + 1) + 100 by omega⟩) hP hK rfl hl.1 rfl (lv_room (Nat.le_of_ble_eq_true rfl)) dX8_does_33) hS (fun r_3 o_4 F_5 H locs hw_6 hP hS => ?_)
      try dsimp only at hw_6
      obtain ⟨m_7K, m_7z⟩ := (WK.rf hW).halt (by decide) hw_6.2
      exact m_iret (v := r_3) hx hb hr hK hP hS ⟨_, _, _, _, _, _, by omega, by omega, m_7K, (fun h => absurd m_7z h)⟩ dX8_does_36 hlocks
    · skip
      have nc_2 : ¬ wk = ms := fun h9 => c_2 ((nI_eq (a := wk) (b := ms) (by omega) (by omega)).mpr h9)
      refine lv_aload_n hx hb dX8_does_21 rfl (lv_at hl 0 rfl) ?_
      refine m_get (v := .int (nI (60 - (fu + 1)))) hx hb htu wu_in hown hK hP 64 (by decide) (htu _ U_220) rfl (m_v hd) dX8_does_22 ?_
      refine lv_bipush (v := 60) hx hb dX8_does_25 (by decide) ?_
      refine lv_icmp_ne (tgt := 37) hx hb dX8_does_27 (by decide) (fun c_8 => ?_) (fun c_8 => absurd c_8 (fun h9 => absurd ((nI_eq (b := 60) (by omega) (by omega)).mp h9) (by omega)))
      refine lv_aload_n hx hb dX8_does_37 rfl (lv_at hl 0 rfl) ?_
      refine lv_dup hx hb dX8_does_38 rfl ?_
      refine m_get (v := .int (nI wk)) hx hb htu wu_in hown hK hP 62 (by decide) (htu _ U_218) rfl (m_v a3_) dX8_does_39 ?_
      refine lv_iconst (v := 1) hx hb dX8_does_42 (by decide) ?_
      refine lv_iadd hx hb dX8_does_43 ?_
      refine m_top (y := nI (wk + 1)) (nI_add wk 1) ?_
      refine m_put (ty := .int) (x := nI (wk + 1)) hx hb htu wu_in hown hK hP hDD hS 62 (by decide) (htu _ U_218) rfl rfl (by decide +kernel) rfl rfl (mO_s62 _ _ _) dX8_does_44 (fun H locs hP hS => ?_)
      refine lv_aload_n hx hb dX8_does_47 rfl (lv_at hl 0 rfl) ?_
      refine lv_dup hx hb dX8_does_48 rfl ?_
      refine m_get (v := .int (nI (60 - (fu + 1)))) hx hb htu wu_in hown hK hP 64 (by decide) (htu _ U_220) rfl (m_v hd) dX8_does_49 ?_
      refine lv_iconst (v := 1) hx hb dX8_does_52 (by decide) ?_
      refine lv_iadd hx hb dX8_does_53 ?_
      refine m_top (y := nI (60 - (fu + 1) + 1)) (nI_add (60 - (fu + 1)) 1) ?_
      refine m_put (ty := .int) (x := nI (60 - (fu + 1) + 1)) hx hb htu wu_in hown hK hP hDD hS 64 (by decide) (htu _ U_220) rfl rfl (by decide +kernel) rfl rfl (mO_s64 _ _ _) dX8_does_54 (fun H locs hP hS => ?_)
      refine lv_aload_n hx hb dX8_does_57 rfl (lv_at hl 0 rfl) ?_
      refine lv_iload_n hx hb dX8_does_58 rfl (lv_at hl 1 rfl) ?_
      refine lv_iload_n hx hb dX8_does_59 rfl (lv_at hl 2 rfl) ?_
      refine m_ci (m_runV (As := [.int (nI n), .int ev]) (rest := []) ⟨hx, hb, hml, hown, htu⟩ (hG l G hDD (upd (upd o 62 (nI (wk + 1))) 64 (nI (60 - (fu + 1) + 1))) F tr N gd vs es (wk + 1) ms n ev (⟨hT.1, hT.2⟩) ((hW.step nc_2)) ((by omega)) ((by omega)) hn he ((congrArg nI (by omega))) ((by omega)) H.size) (cwV 2 htu gU_X8_doing rfl rfl rfl (by decide +kernel) ⟨show (3 * fu + 5) + 1 ≤ 3 * (fu + 1) + 3 by omega, show 8 + (7 + 11) + (80 * fu + 146) ≤ 80 * (fu + 1) + 100 by omega⟩) hP hK rfl hl.1 rfl (lv_room (Nat.le_of_ble_eq_true rfl)) dX8_does_60) hS (fun r_9 o_10 F_11 H locs hw_12 hP hS => ?_)
      try dsimp only at hw_12
      obtain ⟨m9gd, m9vs, m9es, m9d, m9cv, m9ce, m9c1, m9c2, m9W0, m9r⟩ := hw_12
      refine lv_istore_n (lv' := [(3, .int r_9), (0, .ref (mh G)), (1, .int (nI n)), (2, .int ev)]) hx hb dX8_does_63 rfl hl (by decide) rfl (fun ls hl => ?_)
      refine lv_aload_n hx hb dX8_does_64 rfl (lv_at hl 1 rfl) ?_
      refine lv_dup hx hb dX8_does_65 rfl ?_
      refine m_get (v := .int (nI (60 - (fu + 1) + 1))) hx hb htu wu_in hown hK hP 64 (by decide) (htu _ U_220) rfl (m_v m9W0.2.2.2.2.2.2.1) dX8_does_66 ?_
      refine lv_iconst (v := 1) hx hb dX8_does_69 (by decide) ?_
      refine lv_isub hx hb dX8_does_70 ?_
      refine m_top (y := nI (60 - (fu + 1))) (nI_pred _) ?_
      refine m_put (ty := .int) (x := nI (60 - (fu + 1))) hx hb htu wu_in hown hK hP hDD hS 64 (by decide) (htu _ U_220) rfl rfl (by decide +kernel) rfl rfl (mO_s64 _ _ _) dX8_does_71 (fun H locs hP hS => ?_)
      refine lv_aload_n hx hb dX8_does_74 rfl (lv_at hl 1 rfl) ?_
      refine m_get (v := .int (o_10 67)) hx hb htu wu_in hown hK hP 67 (by decide) (htu _ U_221) rfl rfl dX8_does_75 ?_
      refine lv_if_eq (tgt := 85) hx hb dX8_does_78 (by decide) (fun c_13 => ?_) (fun c_13 => ?_)
      · skip
        refine lv_bipush (v := (-9)) hx hb dX8_does_85 (by decide) ?_
        exact m_iret (v := (-9)) hx hb hr hK hP hS ⟨_, _, _, _, _, _, Nat.le_refl _, Nat.le_refl _, (m9W0.done m9c1 m9c2 hd.symm), (fun h => absurd c_13 h)⟩ dX8_does_87 hlocks
      · skip
        refine lv_iload_n hx hb dX8_does_81 rfl (lv_at hl 0 rfl) ?_
        refine lv_goto (tgt := 87) hx hb dX8_does_82 (by decide) ?_
        exact m_iret (v := r_9) hx hb hr hK hP hS ⟨_, _, _, _, _, _, Nat.le_refl _, Nat.le_refl _, (m9W0.done m9c1 m9c2 hd.symm), m9r⟩ dX8_does_87 hlocks
  · skip
    refine lv_bipush (v := (-9)) hx hb dX8_does_7 (by decide) ?_
    exact m_iret (v := (-9)) hx hb hr hK hP hS ⟨_, _, _, _, _, _, by omega, by omega, (WK.rf hW), (fun h => absurd c_1 h)⟩ dX8_does_9 hlocks

