set_option maxHeartbeats 4000000 in
set_option maxRecDepth 100000 in
/-- emptyBounds -/
theorem x_emptyBounds (l : Launch) (G : cG) (S : cS) (sl : Nat) (hC : CL S) (hsl : sl < 300) (hsb : sl ≤ kB S) (Hs : Heap) : Met l yX4_emptyBounds (wC yX4_emptyBounds cX4_emptyBounds 3 none) (cRm S 2 40) (cPc G S Hs [.ref (ga G 2), .int (nI sl)]) (cQv G S Hs (fun u => AW [35] [] S u ∧ (sl < kB u ∧ kK u (35 + sl) = 0 ∧ ∀ j, j < kB S → j ≠ sl → kK u (35 + j) = kK S (35 + j) ∧ kF u (35 + j) = kF S (35 + j)))) (CC - PT S) (12 * (CC - PT S)) (cA G S Hs.size) := by
  refine Met.ofW (cc := cX4_emptyBounds) (maxL := 3) (ret := none) (by decide) rfl ?_
  intro p e s m args below meth c s₁ B hml hv
  obtain ⟨rfl, hsz, hP, hK, hD0, -⟩ := hv
  have hx := B.exec
  have hb := B.bytes
  have hr := B.returns
  have htu : ∀ w ∈ CU, w.before _ s = true := fun w h => atoms_spec (ws := (wC yX4_emptyBounds cX4_emptyBounds 3 none)) B.pre w (List.mem_cons_of_mem _ h)
  have hown : s.vm.findClass RX4 = some m.cls := findClass_of_methodNamed B.named
  have hlocks := B.notSynchronized
  subst hsz
  have hD : cD (cA G S s.heap.size) G S := cD_self hD0
  have hl := lv_entry ([.ref (ga G 2), .int (nI sl)]) (n := 3) (Nat.le_of_ble_eq_true rfl)
  rw [lg_entry_eq]
  generalize (lg_sl ([.ref (ga G 2), .int (nI sl)]) ++ List.replicate (3 - (lg_sl ([.ref (ga G 2), .int (nI sl)])).length) Slot.unset).toArray = ls at hl ⊢
  have hl : lv_has ls 3 [(0, .ref (ga G 2)), (1, .int (nI sl))] := hl
  obtain ⟨H, hHe⟩ : ∃ H : Heap, H = s.heap := ⟨_, rfl⟩
  rw [← hHe] at hP
  have hS : va_S (cA G S s.heap.size) s.heap H [] := by rw [hHe]; exact va_S.rf
  have hh : HS S S := HS.rf
  have hpp : PT S ≤ PT S := Nat.le_refl _
  have hB9 := hC.1
  refine W.heq hHe ?_
  refine c_ent (S := S) ?_
  refine lv_iload_n hx hb dX4_emptyBounds_0 rfl (lv_at hl 1 rfl) ?_
  refine lv_if_lt (tgt := 13) hx hb dX4_emptyBounds_1 (by decide) (fun c_1 => absurd c_1 (nI_n0 (by omega))) (fun c_1 => ?_)
  refine lv_iload_n hx hb dX4_emptyBounds_4 rfl (lv_at hl 1 rfl) ?_
  refine lv_aload_n hx hb dX4_emptyBounds_5 rfl (lv_at hl 0 rfl) ?_
  refine va_get (D := gD G) (ci := 4) (v := .ref (ga G 12)) (C := RX4) (T := TX4) (N := 14) hx hb htu cu_in4 hown hK hP 2 cw_2 rfl 9 (by decide) (htu _ C_75) (fun _ h9 => h9) rfl dX4_emptyBounds_6 ?_
  refine va_alen hx hb hK hP 12 2 cw_12 rfl (v := 300) rfl dX4_emptyBounds_9 ?_
  refine lv_icmp_lt (tgt := 14) hx hb dX4_emptyBounds_10 (by decide) (fun c_2 => ?_) (fun c_2 => absurd ((nI_ltI (a := sl) (b := 300) (by omega) (by omega)).mpr hsl) c_2)
  refine lv_aload_n hx hb dX4_emptyBounds_14 rfl (lv_at hl 0 rfl) ?_
  refine va_get (D := gD G) (ci := 4) (v := .ref (ga G 12)) (C := RX4) (T := TX4) (N := 14) hx hb htu cu_in4 hown hK hP 2 cw_2 rfl 9 (by decide) (htu _ C_75) (fun _ h9 => h9) rfl dX4_emptyBounds_15 ?_
  refine lv_iload_n hx hb dX4_emptyBounds_18 rfl (lv_at hl 1 rfl) ?_
  refine va_aldq hx hb hK hP 12 2 cw_12 rfl (i := nI sl) (vp_in_nI hsl (by decide)) dX4_emptyBounds_19 ?_
  rw [nI_clamp (by omega)]
  rcases Nat.lt_or_ge sl (kB S) with hlt | hge
  · skip
    rw [show va_rf (if sl < kB S then some (kH S (35 + sl)) else none) = .ref (kH S (35 + sl)) by rw [if_pos hlt]; rfl]
    refine lv_astore_n (lv' := [(2, .ref (kH S (35 + sl))), (0, .ref (ga G 2)), (1, .int (nI sl))]) hx hb dX4_emptyBounds_20 rfl hl (by decide) rfl (fun ls hl => ?_)
    refine lv_aload_n hx hb dX4_emptyBounds_21 rfl (lv_at hl 0 rfl) ?_
    refine lv_ifnonnull (tgt := 41) hx hb dX4_emptyBounds_22 (by decide) ?_
    refine lv_aload_n hx hb dX4_emptyBounds_41 rfl (lv_at hl 0 rfl) ?_
    refine lv_iconst (v := 0) hx hb dX4_emptyBounds_42 (by decide) ?_
    have hC0 := hC
    refine c_cv (c_runV (As := [.int 0]) (rest := []) (q0 := (2 * (35 + sl) + 13)) (ci := 0) ⟨hx, hb, hml, hown, htu⟩ (c_cutA l G S (35 + sl) (by omega) hC (kH S (35 + sl)) rfl 0 H) (cwV 1 htu hU_X4_61 rfl rfl rfl (by decide +kernel) ⟨Nat.le_of_ble_eq_true rfl, Nat.le_of_ble_eq_true rfl⟩) hP hK hD hC hpp (c_hd rfl (cw_row (by omega))) rfl rfl hl.1 rfl (lv_room (Nat.le_of_ble_eq_true rfl)) dX4_emptyBounds_43) hS hD hh hpp (fun S_4 H locs hw_5 hP hD hS hC hh hs_6 hpq => ?_)
    clear hpp
    have hpp := hpq
    clear hpq
    try dsimp only at hw_5
    have aw_7 : AW [35] [] S S_4 := (by rw [hw_5]; exact AW.u (by first | (simp; omega) | simp))
    have aw_7t : AW [35] [] S S_4 := AW.rf.tr (aw_7.mono (by decide) (by decide))
    have ha_8r : 35 + sl < 35 + kB S_4 := by have := hs_6.1; have := (by omega); omega
    have ha_8 : kH S_4 (35 + sl) = kH S (35 + sl) := (hs_6.2 (35 + sl) (by omega)).trans rfl
    have kk_9 : kK S_4 (35 + sl) = 0 := by rw [hw_5]; exact uR_K.trans (rcut_0 _ (by have := hC0.2 (35 + sl) (by omega); have := lim_le (35 + sl); omega))
    exact c_vret hx hb hr hK hP hD hS hC hh hpp ⟨aw_7t, ⟨Nat.lt_of_lt_of_le hlt aw_7t.2.2.2.1, by rw [hw_5]; exact uR_K.trans (rcut_0 _ (by have := hC0.2 (35 + sl) (by omega); have := lim_le (35 + sl); omega)), fun j hj hne => by rw [hw_5]; exact ⟨uR_Ko (by omega), uR_Fo (by omega)⟩⟩⟩ dX4_emptyBounds_46 hlocks
  · skip
    obtain rfl : sl = kB S := by omega
    rw [show va_rf (if kB S < kB S then some (kH S (35 + kB S)) else none) = .null by rw [if_neg (Nat.lt_irrefl _)]; rfl]
    refine lv_astore_nN (lv' := [(2, .null), (0, .ref (ga G 2)), (1, .int (nI (kB S)))]) hx hb dX4_emptyBounds_20 rfl hl (by decide) rfl (fun ls hl => ?_)
    refine lv_aload_nN hx hb dX4_emptyBounds_21 rfl (lv_at hl 0 rfl) ?_
    refine lv_ifnonnullN hx hb dX4_emptyBounds_22 ?_
    refine lv_aload_n hx hb dX4_emptyBounds_25 rfl (lv_at hl 1 rfl) ?_
    refine va_get (D := gD G) (ci := 4) (v := .ref (ga G 12)) (C := RX4) (T := TX4) (N := 14) hx hb htu cu_in4 hown hK hP 2 cw_2 rfl 9 (by decide) (htu _ C_75) (fun _ h9 => h9) rfl dX4_emptyBounds_26 ?_
    refine lv_iload_n hx hb dX4_emptyBounds_29 rfl (lv_at hl 2 rfl) ?_
    have hcl0 : ∀ h q, CL (nB S h q) := fun h q => nB_CL hC (by omega)
    have hroom : PT S + 2 ≤ CC := by have h1 := (hcl0 0 0).pp; rw [nB_PT] at h1; exact h1
    refine va_new (D := gD G) (ci := 0) (fs := [.null, .int 0]) (C := RX0) (T := TX0) (N := 2) hx hb htu cu_in0 tyX0 tyX0_ok hown (htu _ C_65) (htu _ C_24) (htu _ C_25) hK hP hD hS (fun q h => Or.inr h) rfl (by decide +kernel) (show PT S - PT S + 1 ≤ CC - PT S by omega) (show 12 * (PT S - PT S) + 2 ≤ 12 * (CC - PT S) by omega) dX4_emptyBounds_30 (fun qn H hP hD hS => ?_)
    refine lv_dup hx hb dX4_emptyBounds_33 rfl ?_
    have hln : (cW G S ++ [(qn, (.inr (0, [.null, .int 0]) : va_E))])[(cW G S).length]? = some (qn, .inr (0, [.null, .int 0])) := by rw [List.getElem?_append_right (Nat.le_refl _)]; simp
    have hPc : va_P (gD G) vwCl [(qn, .inr (0, [.null, .int 0]))] H := fun k q h => by
      have hj : k = 0 := by have := (List.getElem?_eq_some_iff.mp h).1; simpa using this
      subst hj
      have e1 : (qn, (.inr (0, [.null, .int 0]) : va_E)) = q := by simpa using h
      rw [← e1]
      exact hP _ _ hln
    have hDc : va_D (fun _ => True) [(qn, (.inr (0, [.null, .int 0]) : va_E))] := ⟨fun i j p q hi hj _ => by
      have h1 := (List.getElem?_eq_some_iff.mp hi).1
      have h2 := (List.getElem?_eq_some_iff.mp hj).1
      simp at h1 h2
      omega, fun _ _ _ => trivial⟩
    have hFc : ∀ x, va_A [(qn, (.inr (0, [.null, .int 0]) : va_E))] H.size x → cA G S s.heap.size x := by
      rintro x (⟨j, e, he⟩ | h4)
      · have hj : j = 0 := by have := (List.getElem?_eq_some_iff.mp he).1; simpa using this
        subst hj
        have e1 : (qn, (.inr (0, [.null, .int 0]) : va_E)) = (x, e) := by simpa using he
        have h5 := hD.2 _ _ hln
        rw [e1] at h5
        exact h5
      · exact Or.inr (Nat.le_trans hS.1 h4)
    refine va_callv (va_runI (As := []) (rest := [.ref qn, .int (nI (kB S)), .ref (ga G 12)]) ⟨hx, hb, hml, hown, htu⟩ (c_Row_init l (gD G).1 (gD G).2 (gI G) qn H.size) (cwI 0 htu (wc_good in_X0_init) rfl rfl rfl (htu _ C_25) (htu _ C_80) (htu _ C_33) rfl (by decide +kernel) ⟨Nat.le_of_ble_eq_true rfl, Nat.le_of_ble_eq_true rfl⟩) ⟨fun a U g mk q => by obtain ⟨q0, q1, qP, qK, qD⟩ := q; exact ⟨q0, q1, qP, va_K.moved (u := U) (U := U.calling g mk a) (Vm.Alike.refl U.vm) qK, qD⟩, fun U hU hW => ⟨rfl, by rw [hU], by rw [hU]; exact hPc, va_K.moved hW.alike (cK_i hK), hDc⟩⟩ rfl rfl hl.1 rfl (lv_room (Nat.le_of_ble_eq_true rfl)) dX4_emptyBounds_34 ⟨(show PT S - PT S + 1 + 1 ≤ CC - PT S by omega), (show 12 * (PT S - PT S) + 2 + 4 ≤ 12 * (CC - PT S) by omega)⟩) hS (fun q _ h => hFc q h) hFc (fun u t H1 locs ht hvm hw hB hz1 hk1 hS => ?_)
    obtain ⟨q2, hP1, hK1, hD1⟩ := hB
    rw [ht] at hP1
    obtain ⟨hP, hD⟩ := cpush hP hD (fun x h => hFc x (Or.inr h)) hk1 hP1 hD1
    refine va_astq (D := gD G) (cl := vwCl) (r := (RX0, TX0, 2)) hx hb hK hP hD hS 12 2 (cW G S).length 0 (by rw [List.getElem?_append_left (by unfold cW; simp; omega)]; exact cw_12) rfl (by rw [List.getElem?_append_right (Nat.le_refl _), Nat.sub_self]; rfl) rfl (vp_in_nI hsl (by decide)) dX4_emptyBounds_37 (fun H locs hP hD hS => ?_)
    rw [nI_clamp (by omega), nB_W (by omega)] at hP hD
    refine lv_goto (tgt := 46) hx hb dX4_emptyBounds_38 (by decide) ?_
    refine W.widen (k := PT (nB S qn q2) - PT S) (n := 12 * (PT (nB S qn q2) - PT S)) (by rw [nB_PT]; omega) (by rw [nB_PT]; omega) ?_
    exact c_vret hx hb hr hK hP hD hS (hcl0 qn q2) nB_HS (by rw [nB_PT]; omega) ⟨nB_AW hC.1, Nat.lt_succ_self _, nB_K0, fun j hj hne => ⟨nB_K (by omega), nB_F (by omega)⟩⟩ dX4_emptyBounds_46 hlocks

