theorem rholds_of {n : Int32} {k : Nat} (h : ¬ rholds k n = 0) (hk : k < 2 ^ 31) : ∃ j, j < k ∧ n = nI j := by
  unfold rholds at h
  by_cases h0 : n < 0
  · rw [if_pos h0] at h
    exact absurd rfl h
  · rw [if_neg h0] at h
    by_cases h1 : nI k ≤ n
    · rw [if_pos h1] at h
      exact absurd rfl h
    · exact kI_in h0 h1 hk
theorem rholds_no {n : Int32} {k j : Nat} (h : rholds k n = 0) (hk : k < 2 ^ 31) (hj : j < k) (e : n = nI j) : False := by
  unfold rholds at h
  rw [e, if_neg (nI_n0 (by omega)), if_neg (fun z => by
    have := (nI_leI (a := k) (b := j) (by omega) (by omega)).mp z
    omega)] at h
  exact absurd h (by decide)

set_option maxHeartbeats 4000000 in
set_option maxRecDepth 100000 in
/-- type -/
theorem xw_type (l : Launch) (G : cG) (S : cS) (N : Nat) (tr : aM) (mk : Nat → Int32) (rk : Nat → Nat) (tm : Nat) (x : Int32) (hC : CL S) (hI : CI S N) (hE : TC S tr mk N) (hO : TO S tr N) (hrk : RKs tr rk N) (h8 : S.1 8 = nI tm) (hm0 : KM0 S tm) (hcn : ∀ n, n < N → tm + 1501 + cntT tr 60 n ≤ 2 ^ 29) (hk2 : kK S 23 = 120 ∧ kK S 24 = 120) (Hs : Heap) : Met l yX7_type (wC yX7_type cX7_type 2 (some .int)) (cRm S 310 12000) (cPc G S Hs [.ref (ga G 0), .int x]) (cQi G S Hs (fun v u => AW [6, 7, 8, 9, 16, 14, 10, 11, 12, 13, 17, 18, 23, 24, 25, 26, 35, 19, 20, 21, 22] [8, 9, 10, 11, 12, 13, 14, 201, 300] S u ∧ ((v = -1 ∧ u = S ∧ ¬ ∃ j, j < N ∧ x = nI j) ∨ ∃ n9 tm', n9 < N ∧ x = nI n9 ∧ CI u N ∧ KL u (ty tr n9 60 (zS n9) n9 0).1 tm' ∧ tm' ≤ tm + 1500 + cntT tr 60 n9 ∧ v = tans (ty tr n9 60 (zS n9) n9 0) ∧ u.1 14 = sc (sto (ty tr n9 60 (zS n9) n9 0).1)))) (CC - PT S) (12 * (CC - PT S)) (cA G S Hs.size) := by
  refine Met.ofW (cc := cX7_type) (maxL := 2) (ret := (some .int)) (by decide) rfl ?_
  intro p e s m args below meth c s₁ B hml hv
  obtain ⟨rfl, hsz, hP, hK, hD0, -⟩ := hv
  have hx := B.exec
  have hb := B.bytes
  have hr := B.returns
  have htu : ∀ w ∈ CU, w.before _ s = true := fun w h => atoms_spec (ws := (wC yX7_type cX7_type 2 (some .int))) B.pre w (List.mem_cons_of_mem _ h)
  have hown : s.vm.findClass RX7 = some m.cls := findClass_of_methodNamed B.named
  have hlocks := B.notSynchronized
  subst hsz
  have hD : cD (cA G S s.heap.size) G S := cD_self hD0
  have hl := lv_entry ([.ref (ga G 0), .int x]) (n := 2) (Nat.le_of_ble_eq_true rfl)
  rw [lg_entry_eq]
  generalize (lg_sl ([.ref (ga G 0), .int x]) ++ List.replicate (2 - (lg_sl ([.ref (ga G 0), .int x])).length) Slot.unset).toArray = ls at hl ⊢
  have hl : lv_has ls 2 [(0, .ref (ga G 0)), (1, .int x)] := hl
  obtain ⟨H, hHe⟩ : ∃ H : Heap, H = s.heap := ⟨_, rfl⟩
  rw [← hHe] at hP
  have hS : va_S (cA G S s.heap.size) s.heap H [] := by rw [hHe]; exact va_S.rf
  have hh : HS S S := HS.rf
  have hpp : PT S ≤ PT S := Nat.le_refl _
  have hB9 := hC.1
  refine W.heq hHe ?_
  refine c_ent (S := S) ?_
  obtain ⟨hT, ⟨T, V, X, Y, Z, hY⟩, ⟨h15, h19, h20, h21⟩, ⟨a0, h200, a0l⟩, ⟨a1, h201, a1l⟩, ⟨a2, h202, a2l⟩⟩ := id hI
  obtain ⟨tT, tV, tB, tX⟩ := id hY.2.1
  have hN := hT.1.1
  refine lv_aload_n hx hb dX7_type_0 rfl (lv_at hl 0 rfl) ?_
  refine va_get (D := gD G) (ci := 7) (v := .ref (ga G 1)) (C := RX7) (T := TX7) (N := 4) hx hb htu cu_in7 hown hK hP 0 cw_0 rfl 0 (by decide) (htu _ C_7) (fun _ h9 => h9) rfl dX7_type_1 ?_
  refine lv_iload_n hx hb dX7_type_4 rfl (lv_at hl 1 rfl) ?_
  have hC0 := hC
  refine c_ci (c_runV (As := [.int x]) (rest := []) (q0 := 1) (ci := 3) ⟨hx, hb, hml, hown, htu⟩ (tt_isNode l G S N x hC hT.1 H) (cwV 1 htu hU_X7_67 rfl rfl rfl (by decide +kernel) ⟨show 1 + 1 ≤ 310 by omega, show 8 + (2 + 11) + 21 ≤ 12000 by omega⟩) hP hK hD hC hpp cw_1 rfl rfl hl.1 rfl (lv_room (Nat.le_of_ble_eq_true rfl)) dX7_type_5) hS hD hh hpp (fun r_1 S_2 H locs hw_3 hP hD hS hC hh hs_4 hpq => ?_)
  clear hpp
  have hpp := hpq
  clear hpq
  obtain ⟨-, hu9, hw_3⟩ := hw_3
  have hu9 := hu9.symm
  subst hu9
  refine lv_if_eq (tgt := 22) hx hb dX7_type_8 (by decide) (fun c_5 => ?_) (fun c_5 => ?_)
  · skip
    refine lv_iconst (v := (-1)) hx hb dX7_type_22 (by decide) ?_
    exact c_iret (v := (-1)) hx hb hr hK hP hD hS hC hh hpp ⟨AW.rf, (Or.inl ⟨rfl, rfl, fun ⟨j, hj, e⟩ => rholds_no ((hw_3).symm.trans c_5) (show N < 2 ^ 31 by omega) hj e⟩)⟩ dX7_type_23 hlocks
  · skip
    obtain ⟨n9, hn9, rfl⟩ := rholds_of (fun h => c_5 (hw_3.trans h)) (show N < 2 ^ 31 by omega)
    refine lv_aload_n hx hb dX7_type_11 rfl (lv_at hl 0 rfl) ?_
    refine va_get (D := gD G) (ci := 7) (v := .ref (ga G 4)) (C := RX7) (T := TX7) (N := 4) hx hb htu cu_in7 hown hK hP 0 cw_0 rfl 1 (by decide) (htu _ C_11) (fun _ h9 => h9) rfl dX7_type_12 ?_
    refine lv_iload_n hx hb dX7_type_15 rfl (lv_at hl 1 rfl) ?_
    have hC0 := hC
    refine c_ci (c_runV (As := [.int (nI n9)]) (rest := []) (q0 := 4) (ci := 5) ⟨hx, hb, hml, hown, htu⟩ (x_typeProgram l G S N a1 tr mk rk n9 tm hC hT h15 h19 h20 h21 h201 a1l hE hO hrk hn9 h8 hm0 ((hcn n9 hn9)) hk2 H) (cwV 1 htu hU_X7_108 rfl rfl rfl (by decide +kernel) ⟨show 300 + 1 ≤ 310 by omega, show 8 + (3 + 11) + 11000 ≤ 12000 by omega⟩) hP hK hD hC hpp cw_4 rfl rfl hl.1 rfl (lv_room (Nat.le_of_ble_eq_true rfl)) dX7_type_16) hS hD hh hpp (fun r_6 S_7 H locs hw_8 hP hD hS hC hh hs_9 hpq => ?_)
    clear hpp
    have hpp := hpq
    clear hpq
    try dsimp only at hw_8
    have aw_10 : AW [6, 7, 8, 9, 16, 14, 10, 11, 12, 13, 17, 18, 23, 24, 25, 26, 35, 19, 20, 21, 22] [8, 9, 10, 11, 12, 13, 14, 201, 300] S S_7 := hw_8.1
    have aw_10t : AW [6, 7, 8, 9, 16, 14, 10, 11, 12, 13, 17, 18, 23, 24, 25, 26, 35, 19, 20, 21, 22] [8, 9, 10, 11, 12, 13, 14, 201, 300] S S_7 := AW.rf.tr (aw_10.mono (by decide) (by decide))
    have kk_11 : kK S_7 15 = 0 := (aw_10.2.1 15 (lt35 (by decide)) (by decide)).2.trans h15
    have ii_12 : S_7.1 200 = nI a0 := (aw_10.1 200 (by decide)).trans h200
    have ii_13 : S_7.1 202 = nI a2 := (aw_10.1 202 (by decide)).trans h202
    have tj_14 : TJ S_7 N := TJ.aw hT aw_10 (by decide)
    obtain ⟨⟨⟨tp_15T, tp_15V, tp_15X, tp_15Y, tp_15Z, tp_15y⟩, tp_15k, tp_15m, tp_15s, tp_15l⟩, ⟨tp_15t, tp_15kl, tp_15le⟩, tp_15v, tp_1514⟩ := hw_8.2
    refine lv_goto (tgt := 23) hx hb dX7_type_19 (by decide) ?_
    exact c_iret (v := r_6) hx hb hr hK hP hD hS hC hh hpp ⟨aw_10t, (Or.inr ⟨n9, tp_15t, hn9, rfl, ⟨tj_14, ⟨_, _, _, _, _, tp_15y⟩, ⟨tp_15k.1, tp_15k.2.1, tp_15k.2.2.1, tp_15k.2.2.2⟩, ⟨_, ii_12, a0l⟩, ⟨_, tp_15s, tp_15l⟩, ⟨_, ii_13, a2l⟩⟩, tp_15kl, tp_15le, tp_15v, tp_1514⟩)⟩ dX7_type_23 hlocks

theorem KT.vr {S : cS} {z : aS} (h : KT S z) (x : Int32) : (rget (kF S 14) (kK S 14) x = -9 ∧ ¬ ∃ j, j < nV z ∧ x = nI j) ∨ ∃ j, j < nV z ∧ x = nI j ∧ rget (kF S 14) (kK S 14) x = nI (z.1 6 j) ∧ z.1 6 j < nT z ∧ srt z (z.1 6 j) = 3 ∧ one z (z.1 6 j) = j := by
  obtain ⟨⟨a1, a2, a3, a4, a5, a6, a6b, a7, a8, a9, a10⟩, -, -, -, ⟨-, f⟩, -⟩ := h
  rw [a5]
  by_cases e : ∃ j, j < nV z ∧ x = nI j
  · obtain ⟨j, hj, rfl⟩ := e
    obtain ⟨f1, f2, f3, f4⟩ := f j hj
    exact Or.inr ⟨j, hj, rfl, (rget_at hj (by omega)).trans f1, f2, f3, f4⟩
  · refine Or.inl ⟨?_, e⟩
    unfold rget
    by_cases h0 : x < 0
    · rw [if_pos h0]
    · rw [if_neg h0]
      by_cases h1 : nI (nV z) ≤ x
      · rw [if_pos h1]
      · exact absurd (kI_in h0 h1 (by omega)) e

