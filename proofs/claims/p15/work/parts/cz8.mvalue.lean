/-- the latest work()'s VALUE in the second program: the values of a machine's run, under a map of numbers -/
def VR9 (F : Nat → Nat → Int32) (x : Int32) (tr : aM) (N : Nat) (dp : Nat → Nat) (a : wmS) (φ : Nat → Nat) (v0 : Nat) : Prop := (∀ v, v < wnv a → φ v < 400 ∧ MV tr F a φ v) ∧ wmW tr N dp a ∧ N ≤ 120 ∧ (∀ m, m < N → tr 2 m ≤ 6) ∧ (∀ n, n < N → tr 0 n = 5 → tr 2 n ≤ 6 ∧ ∀ i, i < tr 2 n → F 5 (6 * n + i) = nI (tr (20 + i) n) ∧ tr (20 + i) n < 26) ∧ v0 < wnv a ∧ x = nI (φ v0)
theorem sgat_in {L : List Int32} {j : Nat} (hj : j < L.length) (hl : L.length ≤ 200) : sgat L (nI j) = L.getD j 0 := by
  unfold sgat
  rw [if_neg (nI_neg (by decide) (by omega)), if_neg (nI_n0 (by omega)), if_neg (by rw [nI_leI (by omega) (by omega)]; omega), nI_clamp (by omega)]
theorem sgat_out {L : List Int32} {y : Int32} (h1 : y ≠ -1) (h : ¬ ∃ j, j < L.length ∧ y = nI j) (hl : L.length ≤ 200) : sgat L y = -9 := by
  unfold sgat
  rw [if_neg h1]
  rcases (in_or (k := L.length) (i := y) (by omega)).resolve_left h with z | ⟨z1, z2⟩
  · rw [if_pos z]
  · rw [if_neg z1, if_pos z2]

set_option maxHeartbeats 4000000 in
set_option maxRecDepth 100000 in
/-- value -/
theorem xm_value (l : Launch) (G : mG) (hDD : mDD G) (o : Nat → Int32) (F : Nat → Nat → Int32) (tr : aM) (N : Nat) (dp : Nat → Nat) (a9 : wmS) (φ : Nat → Nat) (v9 : Nat) (y : Int32) (hV : o 61 = 0 → VR9 F (o 66) tr N dp a9 φ v9) (sz : Nat) : Met l yX8_value (wU yX8_value cX8_value 2 (some .int)) { frames := 203, cells := 0, slots := 0, locals := 4472 } (mPc G o F sz [.ref (mh G), .int y]) (mQi G sz (fun r u => (o 61 ≠ 0 → r = -9) ∧ (o 61 = 0 → r = sgat (wmt tr a9 200 v9 []) y) ∧ Kq LTa o F u)) 0 0 (mA G sz) := by
  refine Met.ofW (cc := cX8_value) (maxL := 2) (ret := (some .int)) (by decide) rfl ?_
  intro p e s m args below meth c s₁ B hml hv
  obtain ⟨rfl, hsz, hP, hK⟩ := hv
  have hx := B.exec
  have hb := B.bytes
  have hr := B.returns
  have htu : ∀ w ∈ WU, w.before _ s = true := fun w h => atoms_spec (ws := (wU yX8_value cX8_value 2 (some .int))) B.pre w (List.mem_cons_of_mem _ h)
  have hown : s.vm.findClass RX8 = some m.cls := findClass_of_methodNamed B.named
  have hlocks := B.notSynchronized
  subst hsz
  have hS : va_S (mA G s.heap.size) s.heap s.heap [] := va_S.rf
  have hl := lv_entry ([.ref (mh G), .int y]) (n := 2) (Nat.le_of_ble_eq_true rfl)
  rw [lg_entry_eq]
  generalize (lg_sl ([.ref (mh G), .int y]) ++ List.replicate (2 - (lg_sl ([.ref (mh G), .int y])).length) Slot.unset).toArray = ls at hl ⊢
  have hl : lv_has ls 2 [(0, .ref (mh G)), (1, .int y)] := hl
  obtain ⟨H, hHe⟩ : ∃ H : Heap, H = s.heap := ⟨_, rfl⟩
  rw [← hHe] at hP
  have hS : va_S (mA G s.heap.size) s.heap H [] := by rw [hHe]; exact va_S.rf
  refine W.heq hHe ?_
  refine lv_aload_n hx hb dX8_value_0 rfl (lv_at hl 0 rfl) ?_
  refine m_get (v := .int (o 61)) hx hb htu wu_in hown hK hP 61 (by decide) (htu _ U_222) rfl rfl dX8_value_1 ?_
  refine lv_if_eq (tgt := 10) hx hb dX8_value_4 (by decide) (fun c_1 => ?_) (fun c_1 => ?_)
  · skip
    obtain ⟨hV1, hV2, hV3, hV4, hV5, hV6, hV7⟩ := hV c_1
    refine lv_aload_n hx hb dX8_value_10 rfl (lv_at hl 0 rfl) ?_
    refine lv_iconst (v := 0) hx hb dX8_value_11 (by decide) ?_
    refine m_put (ty := .int) (x := 0) hx hb htu wu_in hown hK hP hDD hS 47 (by decide) (htu _ U_187) rfl rfl (by decide +kernel) rfl rfl (mO_s47 _ _ _) dX8_value_12 (fun H locs hP hS => ?_)
    refine lv_aload_n hx hb dX8_value_15 rfl (lv_at hl 0 rfl) ?_
    refine lv_sipush (v := 200) hx hb dX8_value_16 (by decide) ?_
    refine m_put (ty := .int) (x := 200) hx hb htu wu_in hown hK hP hDD hS 48 (by decide) (htu _ U_188) rfl rfl (by decide +kernel) rfl rfl (mO_s48 _ _ _) dX8_value_19 (fun H locs hP hS => ?_)
    refine lv_aload_n hx hb dX8_value_22 rfl (lv_at hl 0 rfl) ?_
    refine lv_aload_n hx hb dX8_value_23 rfl (lv_at hl 0 rfl) ?_
    refine m_get (v := .int (nI (φ v9))) hx hb htu wu_in hown hK hP 66 (by decide) (htu _ U_224) rfl (m_v hV7) dX8_value_24 ?_
    refine m_cv (m_runV (As := [.int (nI (φ v9))]) (rest := []) ⟨hx, hb, hml, hown, htu⟩ (xm_tellX_all 200 l G hDD (upd (upd o 47 0) 48 200) F tr N dp a9 φ ([]) v9 hV1 hV2 hV3 hV4 hV5 (⟨rfl, fun j hj => absurd hj (Nat.not_lt_zero _)⟩) ((Nat.zero_le _)) rfl ((by decide)) hV6 H.size) (cwV 1 htu gU_X8_tellValue rfl rfl rfl (by decide +kernel) ⟨Nat.le_of_ble_eq_true rfl, Nat.le_of_ble_eq_true rfl⟩) hP hK rfl hl.1 rfl (lv_room (Nat.le_of_ble_eq_true rfl)) dX8_value_27) hS (fun o_3 F_4 H locs hw_5 hP hS => ?_)
    try dsimp only at hw_5
    obtain ⟨hg9, hq9⟩ := hw_5
    have hK9 := (((Kq.rf (L := LTa) (o := o) (F := F)).o (by decide)).o (by decide)).tr (hq9.mono (by decide))
    have hlen := wmt_len (tr := tr) (s := a9) 200 v9 [] (Nat.zero_le _)
    obtain ⟨b9, hbe⟩ : ∃ b, (wmt tr a9 200 v9 []).length = b := ⟨_, rfl⟩
    have hb9 : o_3 47 = nI b9 := hg9.1.trans (congrArg nI hbe)
    rw [hbe] at hlen
    refine lv_iload_n hx hb dX8_value_30 rfl (lv_at hl 1 rfl) ?_
    refine lv_iconst (v := (-1)) hx hb dX8_value_31 (by decide) ?_
    refine lv_icmp_ne (tgt := 42) hx hb dX8_value_32 (by decide) (fun c_6 => ?_) (fun c_6 => ?_)
    · skip
      refine lv_iload_n hx hb dX8_value_42 rfl (lv_at hl 1 rfl) ?_
      refine lv_iconst (v := 0) hx hb dX8_value_43 (by decide) ?_
      refine lv_aload_n hx hb dX8_value_44 rfl (lv_at hl 0 rfl) ?_
      refine m_get (v := .int (nI b9)) hx hb htu wu_in hown hK hP 47 (by decide) (htu _ U_187) rfl (m_v hb9) dX8_value_45 ?_
      refine lv_iconst (v := 1) hx hb dX8_value_48 (by decide) ?_
      refine lv_isub hx hb dX8_value_49 ?_
      refine m_top (y := nI b9 - 1) rfl ?_
      refine m_ci (m_runS (As := [.int y, .int 0, .int (nI b9 - 1)]) (rest := []) ⟨hx, hb, hml, hown, htu⟩ (m_inn l G hDD o_3 F_4 y 0 ((nI b9 - 1)) H.size) (va_cwS 3 htu gU_X8_in rfl rfl rfl (by decide +kernel) ⟨Nat.le_of_ble_eq_true rfl, Nat.le_of_ble_eq_true rfl⟩) hP hK rfl hl.1 rfl (lv_room (Nat.le_of_ble_eq_true rfl)) dX8_value_50) hS (fun r_7 o_8 F_9 H locs hw_10 hP hS => ?_)
      try dsimp only at hw_10
      obtain ⟨hu, hc⟩ := hw_10
      rw [in_nat2 (by omega)] at hc
      obtain ⟨h91, h92⟩ := Prod.mk.inj hu
      have h91 := h91.symm
      subst h91
      have h92 := h92.symm
      subst h92
      rcases hc with ⟨k1, w9, k2, k3⟩ | ⟨k1, k2⟩
      · skip
        subst k1
        subst k3
        refine lv_if_eq (tgt := 65) hx hb dX8_value_53 (by decide) (fun c_11 => absurd c_11 (by decide)) (fun c_11 => ?_)
        refine lv_aload_n hx hb dX8_value_56 rfl (lv_at hl 0 rfl) ?_
        refine m_get (v := .ref (md G 46)) hx hb htu wu_in hown hK hP 46 (by decide) (htu _ U_190) rfl rfl dX8_value_57 ?_
        refine lv_iload_n hx hb dX8_value_60 rfl (lv_at hl 1 rfl) ?_
        refine m_bald (j := w9) (v := (wmt tr a9 200 v9 []).getD w9 0) hx hb hK hP 28 46 rfl (by omega) (by decide) (hg9.2 w9 (by omega)) dX8_value_61 ?_
        refine lv_goto (tgt := 67) hx hb dX8_value_62 (by decide) ?_
        exact m_iret (v := (wmt tr a9 200 v9 []).getD w9 0) hx hb hr hK hP hS ⟨fun z => absurd c_1 z, fun _ => (sgat_in (by omega) (by omega)).symm, hK9⟩ dX8_value_67 hlocks
      · skip
        subst k1
        refine lv_if_eq (tgt := 65) hx hb dX8_value_53 (by decide) (fun c_12 => ?_) (fun c_12 => absurd (by decide) c_12)
        refine lv_bipush (v := (-9)) hx hb dX8_value_65 (by decide) ?_
        exact m_iret (v := (-9)) hx hb hr hK hP hS ⟨fun z => absurd c_1 z, fun _ => (sgat_out c_6 (by rw [hbe]; exact k2) (by omega)).symm, hK9⟩ dX8_value_67 hlocks
    · skip
      refine lv_aload_n hx hb dX8_value_35 rfl (lv_at hl 0 rfl) ?_
      refine m_get (v := .int (nI b9)) hx hb htu wu_in hown hK hP 47 (by decide) (htu _ U_187) rfl (m_v hb9) dX8_value_36 ?_
      refine lv_goto (tgt := 67) hx hb dX8_value_39 (by decide) ?_
      exact m_iret (v := nI b9) hx hb hr hK hP hS ⟨fun z => absurd c_1 z, fun _ => (by rw [c_6]; unfold sgat; rw [if_pos rfl, hbe]), hK9⟩ dX8_value_67 hlocks
  · skip
    refine lv_bipush (v := (-9)) hx hb dX8_value_7 (by decide) ?_
    exact m_iret (v := (-9)) hx hb hr hK hP hS ⟨fun _ => rfl, fun z => absurd z c_1, Kq.rf⟩ dX8_value_9 hlocks

