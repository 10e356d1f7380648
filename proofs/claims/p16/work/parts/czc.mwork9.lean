theorem YQ.vr {tr : aM} {al c : Nat} {φ : Nat → Nat} {o o2 : Nat → Int32} {F F2 : Nat → Nat → Int32} {s : wmS} {r : wmS × Nat} {rv : Int32} (h : YQ tr al 0 c φ o F s r rv (o2, F2)) (hb : bgn s = 0) (hb2 : bgn r.1 ≤ 300) (hc : c = 0) : hlt r.1 = 0 → ∃ φ : Nat → Nat, (∀ v, v < wnv r.1 → φ v < 400 ∧ MV tr F2 r.1 φ v) ∧ rv = nI (φ r.2) := by
  intro z
  rcases h with ⟨b1, -⟩ | ⟨-, vs1, φ1, h1, h2⟩
  · exact absurd z b1
  · have hs := h1.2.1.2
    exact ⟨φ1, fun v hv => ⟨by have := (h1.1.2.1 v hv).1; omega, (h1.1.2.1 v hv).2⟩, h2⟩

set_option maxHeartbeats 4000000 in
set_option maxRecDepth 100000 in
/-- work -/
theorem xv_mwork (l : Launch) (G : mG) (hDD : mDD G) (o : Nat → Int32) (F : Nat → Nat → Int32) (tr : aM) (N : Nat) (dp : Nat → Nat) (mk : Nat → Int32) (x : Int32) (y : Int32) (hT : TRm tr N o F) (hmk : ∀ n, n < N → F 2 n = mk n) (hTm : wmT tr N dp) (sz : Nat) : Met l yX8_work (wU yX8_work cX8_work 3 (some .int)) { frames := 184, cells := 0, slots := 0, locals := 4923 } (mPc G o F sz [.ref (mh G), .int x, .int y]) (mQi G sz (fun r u => (r = -1 ∧ u = (o, F) ∧ ¬ ((∃ j, j < N ∧ x = nI j) ∧ ∃ w, w < 301 ∧ y = nI w)) ∨ ∃ q w9, q < N ∧ x = nI q ∧ w9 < 301 ∧ y = nI w9 ∧ WV u.1 u.2 ∧ Kq LWa o F u ∧ MO9 (wmo tr mk w9 q) r u ∧ (hlt (wmo tr mk w9 q).1 = 0 → ∃ φ : Nat → Nat, (∀ v, v < wnv (wmo tr mk w9 q).1 → φ v < 400 ∧ MV tr u.2 (wmo tr mk w9 q).1 φ v) ∧ u.1 66 = nI (φ (wmo tr mk w9 q).2)))) 0 0 (mA G sz) := by
  refine Met.ofW (cc := cX8_work) (maxL := 3) (ret := (some .int)) (by decide) rfl ?_
  intro p e s m args below meth c s₁ B hml hv
  obtain ⟨rfl, hsz, hP, hK⟩ := hv
  have hx := B.exec
  have hb := B.bytes
  have hr := B.returns
  have htu : ∀ w ∈ WU, w.before _ s = true := fun w h => atoms_spec (ws := (wU yX8_work cX8_work 3 (some .int))) B.pre w (List.mem_cons_of_mem _ h)
  have hown : s.vm.findClass RX8 = some m.cls := findClass_of_methodNamed B.named
  have hlocks := B.notSynchronized
  subst hsz
  have hS : va_S (mA G s.heap.size) s.heap s.heap [] := va_S.rf
  have hl := lv_entry ([.ref (mh G), .int x, .int y]) (n := 3) (Nat.le_of_ble_eq_true rfl)
  rw [lg_entry_eq]
  generalize (lg_sl ([.ref (mh G), .int x, .int y]) ++ List.replicate (3 - (lg_sl ([.ref (mh G), .int x, .int y])).length) Slot.unset).toArray = ls at hl ⊢
  have hl : lv_has ls 3 [(0, .ref (mh G)), (1, .int x), (2, .int y)] := hl
  obtain ⟨H, hHe⟩ : ∃ H : Heap, H = s.heap := ⟨_, rfl⟩
  rw [← hHe] at hP
  have hS : va_S (mA G s.heap.size) s.heap H [] := by rw [hHe]; exact va_S.rf
  refine W.heq hHe ?_
  have hN := hT.2.1
  refine lv_aload_n hx hb dX8_work_0 rfl (lv_at hl 0 rfl) ?_
  refine lv_iload_n hx hb dX8_work_1 rfl (lv_at hl 1 rfl) ?_
  refine m_ci (m_runV (As := [.int x]) (rest := []) ⟨hx, hb, hml, hown, htu⟩ (m_isNode l G hDD o F N x hT.1 hN H.size) (cwV 1 htu gU_X8_isNode rfl rfl rfl (by decide +kernel) ⟨Nat.le_of_ble_eq_true rfl, Nat.le_of_ble_eq_true rfl⟩) hP hK rfl hl.1 rfl (lv_room (Nat.le_of_ble_eq_true rfl)) dX8_work_2) hS (fun r_1 o_2 F_3 H locs hw_4 hP hS => ?_)
  try dsimp only at hw_4
  obtain ⟨hu, hc⟩ := hw_4
  rcases hc with ⟨g1, q, g2, g3⟩ | ⟨g1, g2⟩
  · skip
    obtain ⟨h91, h92⟩ := Prod.mk.inj hu
    have h91 := h91.symm
    subst h91
    have h92 := h92.symm
    subst h92
    subst g1
    subst g3
    refine lv_if_eq (tgt := 19) hx hb dX8_work_5 (by decide) (fun c_5 => absurd c_5 (by decide)) (fun c_5 => ?_)
    refine lv_iload_n hx hb dX8_work_8 rfl (lv_at hl 2 rfl) ?_
    refine lv_iconst (v := 0) hx hb dX8_work_9 (by decide) ?_
    refine lv_sipush (v := 300) hx hb dX8_work_10 (by decide) ?_
    refine m_ci (m_runS (As := [.int y, .int 0, .int 300]) (rest := []) ⟨hx, hb, hml, hown, htu⟩ (m_inn l G hDD o F y 0 300 H.size) (va_cwS 3 htu gU_X8_in rfl rfl rfl (by decide +kernel) ⟨Nat.le_of_ble_eq_true rfl, Nat.le_of_ble_eq_true rfl⟩) hP hK rfl hl.1 rfl (lv_room (Nat.le_of_ble_eq_true rfl)) dX8_work_13) hS (fun r_6 o_7 F_8 H locs hw_9 hP hS => ?_)
    try dsimp only at hw_9
    obtain ⟨hu2, hc2⟩ := hw_9
    rw [in_301] at hc2
    rcases hc2 with ⟨k1, w9, k2, k3⟩ | ⟨k1, k2⟩
    · skip
      subst k1
      obtain ⟨h91, h92⟩ := Prod.mk.inj hu2
      have h91 := h91.symm
      subst h91
      have h92 := h92.symm
      subst h92
      subst k3
      refine lv_if_ne (tgt := 21) hx hb dX8_work_16 (by decide) (fun c_10 => ?_) (fun c_10 => absurd c_10 (by decide))
      refine lv_aload_n hx hb dX8_work_21 rfl (lv_at hl 0 rfl) ?_
      refine lv_iconst (v := 0) hx hb dX8_work_22 (by decide) ?_
      refine m_put (ty := .int) (x := 0) hx hb htu wu_in hown hK hP hDD hS 51 (by decide) (htu _ U_216) rfl rfl (by decide +kernel) rfl rfl (mO_s51 _ _ _) dX8_work_23 (fun H locs hP hS => ?_)
      refine lv_aload_n hx hb dX8_work_26 rfl (lv_at hl 0 rfl) ?_
      refine lv_iconst (v := 0) hx hb dX8_work_27 (by decide) ?_
      refine m_put (ty := .int) (x := 0) hx hb htu wu_in hown hK hP hDD hS 56 (by decide) (htu _ U_217) rfl rfl (by decide +kernel) rfl rfl (mO_s56 _ _ _) dX8_work_28 (fun H locs hP hS => ?_)
      refine lv_aload_n hx hb dX8_work_31 rfl (lv_at hl 0 rfl) ?_
      refine lv_iconst (v := 0) hx hb dX8_work_32 (by decide) ?_
      refine m_put (ty := .int) (x := 0) hx hb htu wu_in hown hK hP hDD hS 62 (by decide) (htu _ U_218) rfl rfl (by decide +kernel) rfl rfl (mO_s62 _ _ _) dX8_work_33 (fun H locs hP hS => ?_)
      refine lv_aload_n hx hb dX8_work_36 rfl (lv_at hl 0 rfl) ?_
      refine lv_iload_n hx hb dX8_work_37 rfl (lv_at hl 2 rfl) ?_
      refine m_put (ty := .int) (x := nI w9) hx hb htu wu_in hown hK hP hDD hS 63 (by decide) (htu _ U_219) rfl rfl (by decide +kernel) rfl rfl (mO_s63 _ _ _) dX8_work_38 (fun H locs hP hS => ?_)
      refine lv_aload_n hx hb dX8_work_41 rfl (lv_at hl 0 rfl) ?_
      refine lv_iconst (v := 0) hx hb dX8_work_42 (by decide) ?_
      refine m_put (ty := .int) (x := 0) hx hb htu wu_in hown hK hP hDD hS 64 (by decide) (htu _ U_220) rfl rfl (by decide +kernel) rfl rfl (mO_s64 _ _ _) dX8_work_43 (fun H locs hP hS => ?_)
      refine lv_aload_n hx hb dX8_work_46 rfl (lv_at hl 0 rfl) ?_
      refine lv_iconst (v := 1) hx hb dX8_work_47 (by decide) ?_
      refine m_put (ty := .boolean) (x := 1) hx hb htu wu_in hown hK hP hDD hS 67 (by decide) (htu _ U_221) rfl rfl (by decide +kernel) rfl rfl (mO_s67 _ _ _) dX8_work_48 (fun H locs hP hS => ?_)
      refine lv_aload_n hx hb dX8_work_51 rfl (lv_at hl 0 rfl) ?_
      refine lv_iconst (v := 0) hx hb dX8_work_52 (by decide) ?_
      refine m_put (ty := .int) (x := 0) hx hb htu wu_in hown hK hP hDD hS 61 (by decide) (htu _ U_222) rfl rfl (by decide +kernel) rfl rfl (mO_s61 _ _ _) dX8_work_53 (fun H locs hP hS => ?_)
      refine lv_aload_n hx hb dX8_work_56 rfl (lv_at hl 0 rfl) ?_
      refine lv_bipush (v := (-9)) hx hb dX8_work_57 (by decide) ?_
      refine m_put (ty := .int) (x := (-9)) hx hb htu wu_in hown hK hP hDD hS 65 (by decide) (htu _ U_223) rfl rfl (by decide +kernel) rfl rfl (mO_s65 _ _ _) dX8_work_59 (fun H locs hP hS => ?_)
      refine lv_aload_n hx hb dX8_work_62 rfl (lv_at hl 0 rfl) ?_
      refine lv_aload_n hx hb dX8_work_63 rfl (lv_at hl 0 rfl) ?_
      refine lv_iload_n hx hb dX8_work_64 rfl (lv_at hl 1 rfl) ?_
      refine lv_bipush (v := (-9)) hx hb dX8_work_65 (by decide) ?_
      refine m_ci (m_runV (As := [.int (nI q), .int ((-9))]) (rest := [.ref (mh G)]) ⟨hx, hb, hml, hown, htu⟩ (xm_does_all 60 l G hDD (upd (upd (upd (upd (upd (upd (upd (upd o 51 0) 56 0) 62 0) 63 (nI w9)) 64 0) 67 1) 61 0) 65 ((-9))) F tr N dp mk w9 0 ((fun _ => 0)) wm0 q 0 (⟨hT.1, hT.2⟩) hmk hTm ((MR9.ze ⟨rfl, rfl, rfl, rfl⟩)) wm0_W rfl ((show (1 : Int32) ≠ 0 by decide)) (⟨Nat.le_refl _, Nat.le_refl _, Nat.zero_le _, Nat.le_of_lt_succ k2⟩) g2 ((Nat.le_refl _)) ((Nat.zero_le _)) rfl ((Nat.le_refl _)) H.size) (cwV 2 htu gU_X8_does rfl rfl rfl (by decide +kernel) ⟨Nat.le_of_ble_eq_true rfl, Nat.le_of_ble_eq_true rfl⟩) hP hK rfl hl.1 rfl (lv_room (Nat.le_of_ble_eq_true rfl)) dX8_work_67) hS (fun r_11 o_12 F_13 H locs hw_14 hP hS => ?_)
      try dsimp only at hw_14
      have hP9 := wmx_ok hTm mk w9 60 wm0 q 0 wm0_W rfl (Nat.zero_le _) g2 (Nat.le_refl _) (Nat.zero_le _)
      refine m_put (ty := .int) (x := r_11) hx hb htu wu_in hown hK hP hDD hS 66 (by decide) (htu _ U_224) rfl rfl (by decide +kernel) rfl rfl (mO_s66 _ _ _) dX8_work_70 (fun H locs hP hS => ?_)
      refine lv_aload_n hx hb dX8_work_73 rfl (lv_at hl 0 rfl) ?_
      refine m_get (v := .int (o_12 61)) hx hb htu wu_in hown hK hP 61 (by decide) (htu _ U_222) rfl rfl dX8_work_74 ?_
      have hK9 : Kq LWa o F (o_12, F_13) := (((((((((Kq.rf (L := LWa) (o := o) (F := F)).o (by decide)).o (by decide)).o (by decide)).o (by decide)).o (by decide)).o (by decide)).o (by decide)).o (by decide)).tr (YQ.kq hw_14)
      have hV9 : WV (upd o_12 66 r_11) F_13 := YQ.wv hw_14 hP9.1 hN (fun m h => (hT.2.2 m h).2.2.2.2.1) hP9.2.2.2 rfl (Nat.le_trans hP9.2.2.1.2.1 (by omega)) rfl (wmx_h2 _ _ _ _ _ _ _ (Nat.zero_le _))
      exact m_iret (v := o_12 61) hx hb hr hK hP hS (Or.inr ⟨q, w9, g2, rfl, k2, rfl, hV9, hK9.o (by decide), YQ.mo hw_14 rfl rfl, YQ.vr hw_14 rfl (Nat.le_trans hP9.2.2.1.2.1 (by omega)) rfl⟩) dX8_work_77 hlocks
    · skip
      subst k1
      obtain ⟨h91, h92⟩ := Prod.mk.inj hu2
      have h91 := h91.symm
      subst h91
      have h92 := h92.symm
      subst h92
      refine lv_if_ne (tgt := 21) hx hb dX8_work_16 (by decide) (fun c_15 => absurd (by decide) c_15) (fun c_15 => ?_)
      refine lv_iconst (v := (-1)) hx hb dX8_work_19 (by decide) ?_
      exact m_iret (v := (-1)) hx hb hr hK hP hS (Or.inl ⟨rfl, rfl, fun h => k2 h.2⟩) dX8_work_20 hlocks
  · skip
    obtain ⟨h91, h92⟩ := Prod.mk.inj hu
    have h91 := h91.symm
    subst h91
    have h92 := h92.symm
    subst h92
    subst g1
    refine lv_if_eq (tgt := 19) hx hb dX8_work_5 (by decide) (fun c_16 => ?_) (fun c_16 => absurd (by decide) c_16)
    refine lv_iconst (v := (-1)) hx hb dX8_work_19 (by decide) ?_
    exact m_iret (v := (-1)) hx hb hr hK hP hS (Or.inl ⟨rfl, rfl, fun h => g2 h.1⟩) dX8_work_20 hlocks

