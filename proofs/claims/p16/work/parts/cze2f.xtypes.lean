section WD
variable {ka kb sa sb la lb a b : Nat}
theorem wd3 (ra : (sa = 0 ∧ ka < 2 ∧ ka = a) ∨ (sa ≠ 0 ∧ sa ≤ 3 ∧ ka = sa + 1)) (rb : (sb = 0 ∧ kb < 2 ∧ kb = b) ∨ (sb ≠ 0 ∧ sb ≤ 3 ∧ kb = sb + 1)) (h1 : ka = 4) (h2 : ¬ la < lb) : sa = 3 ∧ lb ≤ la := by omega
theorem wd4 (ra : (sa = 0 ∧ ka < 2 ∧ ka = a) ∨ (sa ≠ 0 ∧ sa ≤ 3 ∧ ka = sa + 1)) (rb : (sb = 0 ∧ kb < 2 ∧ kb = b) ∨ (sb ≠ 0 ∧ sb ≤ 3 ∧ kb = sb + 1)) (h1 : kb = 4) (h2 : ¬ lb < la) (h3 : ¬ ka = 4 ∨ la < lb) : sb = 3 ∧ la ≤ lb ∧ ¬ (sa = 3 ∧ lb ≤ la) := by omega
theorem wd5 (ra : (sa = 0 ∧ ka < 2 ∧ ka = a) ∨ (sa ≠ 0 ∧ sa ≤ 3 ∧ ka = sa + 1)) (rb : (sb = 0 ∧ kb < 2 ∧ kb = b) ∨ (sb ≠ 0 ∧ sb ≤ 3 ∧ kb = sb + 1)) (h1 : ka = 4) (h2 : la < lb) (h3 : ¬ kb = 4 ∨ lb < la) : sa = 3 ∧ ¬ lb ≤ la ∧ ¬ (sb = 3 ∧ la ≤ lb) := by omega
theorem wd6 (ra : (sa = 0 ∧ ka < 2 ∧ ka = a) ∨ (sa ≠ 0 ∧ sa ≤ 3 ∧ ka = sa + 1)) (rb : (sb = 0 ∧ kb < 2 ∧ kb = b) ∨ (sb ≠ 0 ∧ sb ≤ 3 ∧ kb = sb + 1)) (h1 : kb = 4) (h2 : ¬ ka = 4) (h3 : lb < la) : sb = 3 ∧ sa ≠ 3 ∧ ¬ la ≤ lb := by omega
theorem wd7 (ra : (sa = 0 ∧ ka < 2 ∧ ka = a) ∨ (sa ≠ 0 ∧ sa ≤ 3 ∧ ka = sa + 1)) (rb : (sb = 0 ∧ kb < 2 ∧ kb = b) ∨ (sb ≠ 0 ∧ sb ≤ 3 ∧ kb = sb + 1)) (h1 : ¬ ka = 4) (h2 : ¬ kb = 4) (h3 : ¬ ka = kb) (hab : a = b → sa = sb) : (¬ (sa = 0 ∧ a = b) ∧ ¬ (sa = 1 ∧ sb = 1) ∧ ¬ (sa = 2 ∧ sb = 2)) ∧ sa ≠ 3 ∧ sb ≠ 3 := by omega
theorem wd1 (ra : (sa = 0 ∧ ka < 2 ∧ ka = a) ∨ (sa ≠ 0 ∧ sa ≤ 3 ∧ ka = sa + 1)) (rb : (sb = 0 ∧ kb < 2 ∧ kb = b) ∨ (sb ≠ 0 ∧ sb ≤ 3 ∧ kb = sb + 1)) (h3 : ka = kb) (h1 : ka = 2) : sa = 1 ∧ sb = 1 := by omega
theorem wd2 (ra : (sa = 0 ∧ ka < 2 ∧ ka = a) ∨ (sa ≠ 0 ∧ sa ≤ 3 ∧ ka = sa + 1)) (rb : (sb = 0 ∧ kb < 2 ∧ kb = b) ∨ (sb ≠ 0 ∧ sb ≤ 3 ∧ kb = sb + 1)) (h3 : ka = kb) (h1 : ka = 3) : sa = 2 ∧ sb = 2 := by omega
theorem wd0 (ra : (sa = 0 ∧ ka < 2 ∧ ka = a) ∨ (sa ≠ 0 ∧ sa ≤ 3 ∧ ka = sa + 1)) (rb : (sb = 0 ∧ kb < 2 ∧ kb = b) ∨ (sb ≠ 0 ∧ sb ≤ 3 ∧ kb = sb + 1)) (h3 : ka = kb) (h1 : ¬ ka = 2) (h2 : ¬ ka = 3) (h4 : ¬ ka = 4) : sa = 0 ∧ a = b := by omega
end WD

set_option maxHeartbeats 4000000 in
set_option maxRecDepth 100000 in
/-- whatIsDue -/
theorem x_whatIsDue (l : Launch) (G : cG) (S : cS) (z : aS) (a9 : Nat) (b9 : Nat) (hC : CL S) (hz : KT S z) (ha : a9 < nT z) (hb9 : b9 < nT z) (Hs : Heap) : Met l yX5_whatIsDue (wC yX5_whatIsDue cX5_whatIsDue 5 (some .int)) (cRm S 2 42) (cPc G S Hs [.ref (ga G 4), .int (nI a9), .int (nI b9)]) (cQi G S Hs (fun v u => AW [] [] S u ∧ (u = S ∧ ((v = 0 ∧ srt z a9 = 0 ∧ a9 = b9) ∨ (v = 1 ∧ srt z a9 = 1 ∧ srt z b9 = 1) ∨ (v = 2 ∧ srt z a9 = 2 ∧ srt z b9 = 2) ∨ (v = 3 ∧ srt z a9 = 3 ∧ lev z b9 ≤ lev z a9) ∨ (v = 4 ∧ srt z b9 = 3 ∧ lev z a9 ≤ lev z b9 ∧ ¬ (srt z a9 = 3 ∧ lev z b9 ≤ lev z a9)) ∨ (v = 5 ∧ srt z a9 = 3 ∧ ¬ lev z b9 ≤ lev z a9 ∧ ¬ (srt z b9 = 3 ∧ lev z a9 ≤ lev z b9)) ∨ (v = 6 ∧ srt z b9 = 3 ∧ srt z a9 ≠ 3 ∧ ¬ lev z a9 ≤ lev z b9) ∨ (v = 7 ∧ (¬ (srt z a9 = 0 ∧ a9 = b9) ∧ ¬ (srt z a9 = 1 ∧ srt z b9 = 1) ∧ ¬ (srt z a9 = 2 ∧ srt z b9 = 2)) ∧ srt z a9 ≠ 3 ∧ srt z b9 ≠ 3))))) (CC - PT S) (12 * (CC - PT S)) (cA G S Hs.size) := by
  refine Met.ofW (cc := cX5_whatIsDue) (maxL := 5) (ret := (some .int)) (by decide) rfl ?_
  intro p e s m args below meth c s₁ B hml hv
  obtain ⟨rfl, hsz, hP, hK, hD0, -⟩ := hv
  have hx := B.exec
  have hb := B.bytes
  have hr := B.returns
  have htu : ∀ w ∈ CU, w.before _ s = true := fun w h => atoms_spec (ws := (wC yX5_whatIsDue cX5_whatIsDue 5 (some .int))) B.pre w (List.mem_cons_of_mem _ h)
  have hown : s.vm.findClass RX5 = some m.cls := findClass_of_methodNamed B.named
  have hlocks := B.notSynchronized
  subst hsz
  have hD : cD (cA G S s.heap.size) G S := cD_self hD0
  have hl := lv_entry ([.ref (ga G 4), .int (nI a9), .int (nI b9)]) (n := 5) (Nat.le_of_ble_eq_true rfl)
  rw [lg_entry_eq]
  generalize (lg_sl ([.ref (ga G 4), .int (nI a9), .int (nI b9)]) ++ List.replicate (5 - (lg_sl ([.ref (ga G 4), .int (nI a9), .int (nI b9)])).length) Slot.unset).toArray = ls at hl ⊢
  have hl : lv_has ls 5 [(0, .ref (ga G 4)), (1, .int (nI a9)), (2, .int (nI b9))] := hl
  obtain ⟨H, hHe⟩ : ∃ H : Heap, H = s.heap := ⟨_, rfl⟩
  rw [← hHe] at hP
  have hS : va_S (cA G S s.heap.size) s.heap H [] := by rw [hHe]; exact va_S.rf
  have hh : HS S S := HS.rf
  have hpp : PT S ≤ PT S := Nat.le_refl _
  have hB9 := hC.1
  refine W.heq hHe ?_
  refine c_ent (S := S) ?_
  have ra := ks_or hz ha
  have rb := ks_or hz hb9
  have la := hz.lv ha
  have lb := hz.lv hb9
  refine lv_aload_n hx hb dX5_whatIsDue_0 rfl (lv_at hl 0 rfl) ?_
  refine va_get (D := gD G) (ci := 5) (v := .ref (ga G 2)) (C := RX5) (T := TX5) (N := 15) hx hb htu cu_in5 hown hK hP 4 cw_4 rfl 1 (by decide) (htu _ C_45) (fun _ h9 => h9) rfl dX5_whatIsDue_1 ?_
  refine lv_iload_n hx hb dX5_whatIsDue_4 rfl (lv_at hl 1 rfl) ?_
  have hC0 := hC
  refine c_ci (c_runV (As := [.int (nI a9)]) (rest := []) (q0 := 2) (ci := 4) ⟨hx, hb, hml, hown, htu⟩ (y_sortOf l G S (nI a9) hC  H) (cwV 1 htu hU_X5_209 rfl rfl rfl (by decide +kernel) ⟨Nat.le_of_ble_eq_true rfl, Nat.le_of_ble_eq_true rfl⟩) hP hK hD hC hpp cw_2 rfl rfl hl.1 rfl (lv_room (Nat.le_of_ble_eq_true rfl)) dX5_whatIsDue_5) hS hD hh hpp (fun r_1 S_2 H locs hw_3 hP hD hS hC hh hs_4 hpq => ?_)
  clear hpp
  have hpp := hpq
  clear hpq
  obtain ⟨-, hu9, hw_3⟩ := hw_3
  have hu9 := hu9.symm
  subst hu9
  obtain rfl : r_1 = nI (ks z a9) := hw_3.trans (hz.rs ha)
  refine lv_istore_n (lv' := [(3, .int (nI (ks z a9))), (0, .ref (ga G 4)), (1, .int (nI a9)), (2, .int (nI b9))]) hx hb dX5_whatIsDue_8 rfl hl (by decide) rfl (fun ls hl => ?_)
  refine lv_aload_n hx hb dX5_whatIsDue_9 rfl (lv_at hl 1 rfl) ?_
  refine va_get (D := gD G) (ci := 5) (v := .ref (ga G 2)) (C := RX5) (T := TX5) (N := 15) hx hb htu cu_in5 hown hK hP 4 cw_4 rfl 1 (by decide) (htu _ C_45) (fun _ h9 => h9) rfl dX5_whatIsDue_10 ?_
  refine lv_iload_n hx hb dX5_whatIsDue_13 rfl (lv_at hl 3 rfl) ?_
  have hC0 := hC
  refine c_ci (c_runV (As := [.int (nI b9)]) (rest := []) (q0 := 2) (ci := 4) ⟨hx, hb, hml, hown, htu⟩ (y_sortOf l G S (nI b9) hC  H) (cwV 1 htu hU_X5_209 rfl rfl rfl (by decide +kernel) ⟨Nat.le_of_ble_eq_true rfl, Nat.le_of_ble_eq_true rfl⟩) hP hK hD hC hpp cw_2 rfl rfl hl.1 rfl (lv_room (Nat.le_of_ble_eq_true rfl)) dX5_whatIsDue_14) hS hD hh hpp (fun r_5 S_6 H locs hw_7 hP hD hS hC hh hs_8 hpq => ?_)
  clear hpp
  have hpp := hpq
  clear hpq
  obtain ⟨-, hu9, hw_7⟩ := hw_7
  have hu9 := hu9.symm
  subst hu9
  obtain rfl : r_5 = nI (ks z b9) := hw_7.trans (hz.rs hb9)
  refine lv_istore (lv' := [(4, .int (nI (ks z b9))), (3, .int (nI (ks z a9))), (0, .ref (ga G 4)), (1, .int (nI a9)), (2, .int (nI b9))]) hx hb dX5_whatIsDue_17 hl (by decide) rfl (fun ls hl => ?_)
  refine lv_iload_n hx hb dX5_whatIsDue_19 rfl (lv_at hl 1 rfl) ?_
  refine lv_iconst (v := 4) hx hb dX5_whatIsDue_20 (by decide) ?_
  refine lv_icmp_ne (tgt := 45) hx hb dX5_whatIsDue_21 (by decide) (fun c_9 => ?_) (fun c_9 => ?_)
  · skip
    have nc_9 : ¬ ks z a9 = 4 := fun h9 => c_9 ((nI_eq (a := ks z a9) (b := 4) (by omega) (by omega)).mpr h9)
    refine lv_iload hx hb dX5_whatIsDue_45 (lv_at hl 0 rfl) ?_
    refine lv_iconst (v := 4) hx hb dX5_whatIsDue_47 (by decide) ?_
    refine lv_icmp_ne (tgt := 72) hx hb dX5_whatIsDue_48 (by decide) (fun c_10 => ?_) (fun c_10 => ?_)
    · skip
      have nc_10 : ¬ ks z b9 = 4 := fun h9 => c_10 ((nI_eq (a := ks z b9) (b := 4) (by omega) (by omega)).mpr h9)
      refine lv_iload_n hx hb dX5_whatIsDue_72 rfl (lv_at hl 1 rfl) ?_
      refine lv_iconst (v := 4) hx hb dX5_whatIsDue_73 (by decide) ?_
      refine lv_icmp_ne (tgt := 79) hx hb dX5_whatIsDue_74 (by decide) (fun c_11 => ?_) (fun c_11 => absurd c_11 c_9)
      refine lv_iload hx hb dX5_whatIsDue_79 (lv_at hl 0 rfl) ?_
      refine lv_iconst (v := 4) hx hb dX5_whatIsDue_81 (by decide) ?_
      refine lv_icmp_ne (tgt := 88) hx hb dX5_whatIsDue_82 (by decide) (fun c_12 => ?_) (fun c_12 => absurd c_12 c_10)
      refine lv_iload_n hx hb dX5_whatIsDue_88 rfl (lv_at hl 1 rfl) ?_
      refine lv_iload hx hb dX5_whatIsDue_89 (lv_at hl 0 rfl) ?_
      refine lv_icmp_eq (tgt := 97) hx hb dX5_whatIsDue_91 (by decide) (fun c_13 => ?_) (fun c_13 => ?_)
      · skip
        have nc_13 : ks z a9 = ks z b9 := (nI_eq (a := ks z a9) (b := ks z b9) (by omega) (by omega)).mp c_13
        refine lv_iload_n hx hb dX5_whatIsDue_97 rfl (lv_at hl 1 rfl) ?_
        refine lv_iconst (v := 2) hx hb dX5_whatIsDue_98 (by decide) ?_
        refine lv_icmp_ne (tgt := 104) hx hb dX5_whatIsDue_99 (by decide) (fun c_14 => ?_) (fun c_14 => ?_)
        · skip
          have nc_14 : ¬ ks z a9 = 2 := fun h9 => c_14 ((nI_eq (a := ks z a9) (b := 2) (by omega) (by omega)).mpr h9)
          refine lv_iload_n hx hb dX5_whatIsDue_104 rfl (lv_at hl 1 rfl) ?_
          refine lv_iconst (v := 3) hx hb dX5_whatIsDue_105 (by decide) ?_
          refine lv_icmp_ne (tgt := 113) hx hb dX5_whatIsDue_106 (by decide) (fun c_15 => ?_) (fun c_15 => ?_)
          · skip
            have nc_15 : ¬ ks z a9 = 3 := fun h9 => c_15 ((nI_eq (a := ks z a9) (b := 3) (by omega) (by omega)).mpr h9)
            refine lv_iconst (v := 0) hx hb dX5_whatIsDue_113 (by decide) ?_
            exact c_iret (v := 0) hx hb hr hK hP hD hS hC hh hpp ⟨AW.rf, ⟨rfl, (Or.inl ⟨rfl, wd0 ra rb nc_13 nc_14 nc_15 nc_9⟩)⟩⟩ dX5_whatIsDue_114 hlocks
          · skip
            have nc_15 : ks z a9 = 3 := (nI_eq (a := ks z a9) (b := 3) (by omega) (by omega)).mp c_15
            refine lv_iconst (v := 2) hx hb dX5_whatIsDue_109 (by decide) ?_
            refine lv_goto (tgt := 114) hx hb dX5_whatIsDue_110 (by decide) ?_
            exact c_iret (v := 2) hx hb hr hK hP hD hS hC hh hpp ⟨AW.rf, ⟨rfl, (Or.inr (Or.inr (Or.inl ⟨rfl, wd2 ra rb nc_13 nc_15⟩)))⟩⟩ dX5_whatIsDue_114 hlocks
        · skip
          have nc_14 : ks z a9 = 2 := (nI_eq (a := ks z a9) (b := 2) (by omega) (by omega)).mp c_14
          refine lv_iconst (v := 1) hx hb dX5_whatIsDue_102 (by decide) ?_
          exact c_iret (v := 1) hx hb hr hK hP hD hS hC hh hpp ⟨AW.rf, ⟨rfl, (Or.inr (Or.inl ⟨rfl, wd1 ra rb nc_13 nc_14⟩))⟩⟩ dX5_whatIsDue_103 hlocks
      · skip
        have nc_13 : ¬ ks z a9 = ks z b9 := fun h9 => c_13 ((nI_eq (a := ks z a9) (b := ks z b9) (by omega) (by omega)).mpr h9)
        refine lv_bipush (v := 7) hx hb dX5_whatIsDue_94 (by decide) ?_
        exact c_iret (v := 7) hx hb hr hK hP hD hS hC hh hpp ⟨AW.rf, ⟨rfl, (Or.inr (Or.inr (Or.inr (Or.inr (Or.inr (Or.inr (Or.inr ⟨rfl, wd7 ra rb nc_9 nc_10 nc_13 (fun e => by rw [e])⟩)))))))⟩⟩ dX5_whatIsDue_96 hlocks
    · skip
      have nc_10 : ks z b9 = 4 := (nI_eq (a := ks z b9) (b := 4) (by omega) (by omega)).mp c_10
      refine lv_aload_n hx hb dX5_whatIsDue_51 rfl (lv_at hl 2 rfl) ?_
      refine va_get (D := gD G) (ci := 5) (v := .ref (ga G 2)) (C := RX5) (T := TX5) (N := 15) hx hb htu cu_in5 hown hK hP 4 cw_4 rfl 1 (by decide) (htu _ C_45) (fun _ h9 => h9) rfl dX5_whatIsDue_52 ?_
      refine lv_iload_n hx hb dX5_whatIsDue_55 rfl (lv_at hl 3 rfl) ?_
      have hC0 := hC
      refine c_ci (c_runV (As := [.int (nI a9)]) (rest := []) (q0 := 2) (ci := 4) ⟨hx, hb, hml, hown, htu⟩ (y_levelOf l G S (nI a9) hC  H) (cwV 1 htu hU_X5_206 rfl rfl rfl (by decide +kernel) ⟨Nat.le_of_ble_eq_true rfl, Nat.le_of_ble_eq_true rfl⟩) hP hK hD hC hpp cw_2 rfl rfl hl.1 rfl (lv_room (Nat.le_of_ble_eq_true rfl)) dX5_whatIsDue_56) hS hD hh hpp (fun r_16 S_17 H locs hw_18 hP hD hS hC hh hs_19 hpq => ?_)
      clear hpp
      have hpp := hpq
      clear hpq
      obtain ⟨-, hu9, hw_18⟩ := hw_18
      have hu9 := hu9.symm
      subst hu9
      obtain rfl : r_16 = nI (lev z a9) := hw_18.trans (hz.rl ha)
      refine lv_aload_n hx hb dX5_whatIsDue_59 rfl (lv_at hl 2 rfl) ?_
      refine va_get (D := gD G) (ci := 5) (v := .ref (ga G 2)) (C := RX5) (T := TX5) (N := 15) hx hb htu cu_in5 hown hK hP 4 cw_4 rfl 1 (by decide) (htu _ C_45) (fun _ h9 => h9) rfl dX5_whatIsDue_60 ?_
      refine lv_iload_n hx hb dX5_whatIsDue_63 rfl (lv_at hl 4 rfl) ?_
      have hC0 := hC
      refine c_ci (c_runV (As := [.int (nI b9)]) (rest := [.int (nI (lev z a9))]) (q0 := 2) (ci := 4) ⟨hx, hb, hml, hown, htu⟩ (y_levelOf l G S (nI b9) hC  H) (cwV 1 htu hU_X5_206 rfl rfl rfl (by decide +kernel) ⟨Nat.le_of_ble_eq_true rfl, Nat.le_of_ble_eq_true rfl⟩) hP hK hD hC hpp cw_2 rfl rfl hl.1 rfl (lv_room (Nat.le_of_ble_eq_true rfl)) dX5_whatIsDue_64) hS hD hh hpp (fun r_20 S_21 H locs hw_22 hP hD hS hC hh hs_23 hpq => ?_)
      clear hpp
      have hpp := hpq
      clear hpq
      obtain ⟨-, hu9, hw_22⟩ := hw_22
      have hu9 := hu9.symm
      subst hu9
      obtain rfl : r_20 = nI (lev z b9) := hw_22.trans (hz.rl hb9)
      refine lv_icmp_gt (tgt := 72) hx hb dX5_whatIsDue_67 (by decide) (fun c_24 => ?_) (fun c_24 => ?_)
      · skip
        have nc_24 : lev z b9 < lev z a9 := (nI_ltI (a := lev z b9) (b := lev z a9) (by omega) (by omega)).mp c_24
        refine lv_iload_n hx hb dX5_whatIsDue_72 rfl (lv_at hl 1 rfl) ?_
        refine lv_iconst (v := 4) hx hb dX5_whatIsDue_73 (by decide) ?_
        refine lv_icmp_ne (tgt := 79) hx hb dX5_whatIsDue_74 (by decide) (fun c_25 => ?_) (fun c_25 => absurd c_25 c_9)
        refine lv_iload hx hb dX5_whatIsDue_79 (lv_at hl 0 rfl) ?_
        refine lv_iconst (v := 4) hx hb dX5_whatIsDue_81 (by decide) ?_
        refine lv_icmp_ne (tgt := 88) hx hb dX5_whatIsDue_82 (by decide) (fun c_26 => absurd c_10 c_26) (fun c_26 => ?_)
        refine lv_bipush (v := 6) hx hb dX5_whatIsDue_85 (by decide) ?_
        exact c_iret (v := 6) hx hb hr hK hP hD hS hC hh hpp ⟨AW.rf, ⟨rfl, (Or.inr (Or.inr (Or.inr (Or.inr (Or.inr (Or.inr (Or.inl ⟨rfl, wd6 ra rb nc_10 nc_9 nc_24⟩)))))))⟩⟩ dX5_whatIsDue_87 hlocks
      · skip
        have nc_24 : ¬ lev z b9 < lev z a9 := fun h9 => c_24 ((nI_ltI (a := lev z b9) (b := lev z a9) (by omega) (by omega)).mpr h9)
        refine lv_iconst (v := 4) hx hb dX5_whatIsDue_70 (by decide) ?_
        exact c_iret (v := 4) hx hb hr hK hP hD hS hC hh hpp ⟨AW.rf, ⟨rfl, (Or.inr (Or.inr (Or.inr (Or.inr (Or.inl ⟨rfl, wd4 ra rb nc_10 nc_24 (Or.inl nc_9)⟩)))))⟩⟩ dX5_whatIsDue_71 hlocks
  · skip
    have nc_9 : ks z a9 = 4 := (nI_eq (a := ks z a9) (b := 4) (by omega) (by omega)).mp c_9
    refine lv_aload_n hx hb dX5_whatIsDue_24 rfl (lv_at hl 2 rfl) ?_
    refine va_get (D := gD G) (ci := 5) (v := .ref (ga G 2)) (C := RX5) (T := TX5) (N := 15) hx hb htu cu_in5 hown hK hP 4 cw_4 rfl 1 (by decide) (htu _ C_45) (fun _ h9 => h9) rfl dX5_whatIsDue_25 ?_
    refine lv_iload_n hx hb dX5_whatIsDue_28 rfl (lv_at hl 4 rfl) ?_
    have hC0 := hC
    refine c_ci (c_runV (As := [.int (nI b9)]) (rest := []) (q0 := 2) (ci := 4) ⟨hx, hb, hml, hown, htu⟩ (y_levelOf l G S (nI b9) hC  H) (cwV 1 htu hU_X5_206 rfl rfl rfl (by decide +kernel) ⟨Nat.le_of_ble_eq_true rfl, Nat.le_of_ble_eq_true rfl⟩) hP hK hD hC hpp cw_2 rfl rfl hl.1 rfl (lv_room (Nat.le_of_ble_eq_true rfl)) dX5_whatIsDue_29) hS hD hh hpp (fun r_27 S_28 H locs hw_29 hP hD hS hC hh hs_30 hpq => ?_)
    clear hpp
    have hpp := hpq
    clear hpq
    obtain ⟨-, hu9, hw_29⟩ := hw_29
    have hu9 := hu9.symm
    subst hu9
    obtain rfl : r_27 = nI (lev z b9) := hw_29.trans (hz.rl hb9)
    refine lv_aload_n hx hb dX5_whatIsDue_32 rfl (lv_at hl 2 rfl) ?_
    refine va_get (D := gD G) (ci := 5) (v := .ref (ga G 2)) (C := RX5) (T := TX5) (N := 15) hx hb htu cu_in5 hown hK hP 4 cw_4 rfl 1 (by decide) (htu _ C_45) (fun _ h9 => h9) rfl dX5_whatIsDue_33 ?_
    refine lv_iload_n hx hb dX5_whatIsDue_36 rfl (lv_at hl 3 rfl) ?_
    have hC0 := hC
    refine c_ci (c_runV (As := [.int (nI a9)]) (rest := [.int (nI (lev z b9))]) (q0 := 2) (ci := 4) ⟨hx, hb, hml, hown, htu⟩ (y_levelOf l G S (nI a9) hC  H) (cwV 1 htu hU_X5_206 rfl rfl rfl (by decide +kernel) ⟨Nat.le_of_ble_eq_true rfl, Nat.le_of_ble_eq_true rfl⟩) hP hK hD hC hpp cw_2 rfl rfl hl.1 rfl (lv_room (Nat.le_of_ble_eq_true rfl)) dX5_whatIsDue_37) hS hD hh hpp (fun r_31 S_32 H locs hw_33 hP hD hS hC hh hs_34 hpq => ?_)
    clear hpp
    have hpp := hpq
    clear hpq
    obtain ⟨-, hu9, hw_33⟩ := hw_33
    have hu9 := hu9.symm
    subst hu9
    obtain rfl : r_31 = nI (lev z a9) := hw_33.trans (hz.rl ha)
    refine lv_icmp_gt (tgt := 45) hx hb dX5_whatIsDue_40 (by decide) (fun c_35 => ?_) (fun c_35 => ?_)
    · skip
      have nc_35 : lev z a9 < lev z b9 := (nI_ltI (a := lev z a9) (b := lev z b9) (by omega) (by omega)).mp c_35
      refine lv_iload hx hb dX5_whatIsDue_45 (lv_at hl 0 rfl) ?_
      refine lv_iconst (v := 4) hx hb dX5_whatIsDue_47 (by decide) ?_
      refine lv_icmp_ne (tgt := 72) hx hb dX5_whatIsDue_48 (by decide) (fun c_36 => ?_) (fun c_36 => ?_)
      · skip
        have nc_36 : ¬ ks z b9 = 4 := fun h9 => c_36 ((nI_eq (a := ks z b9) (b := 4) (by omega) (by omega)).mpr h9)
        refine lv_iload_n hx hb dX5_whatIsDue_72 rfl (lv_at hl 1 rfl) ?_
        refine lv_iconst (v := 4) hx hb dX5_whatIsDue_73 (by decide) ?_
        refine lv_icmp_ne (tgt := 79) hx hb dX5_whatIsDue_74 (by decide) (fun c_37 => absurd c_9 c_37) (fun c_37 => ?_)
        refine lv_iconst (v := 5) hx hb dX5_whatIsDue_77 (by decide) ?_
        exact c_iret (v := 5) hx hb hr hK hP hD hS hC hh hpp ⟨AW.rf, ⟨rfl, (Or.inr (Or.inr (Or.inr (Or.inr (Or.inr (Or.inl ⟨rfl, wd5 ra rb nc_9 nc_35 (Or.inl nc_36)⟩))))))⟩⟩ dX5_whatIsDue_78 hlocks
      · skip
        have nc_36 : ks z b9 = 4 := (nI_eq (a := ks z b9) (b := 4) (by omega) (by omega)).mp c_36
        refine lv_aload_n hx hb dX5_whatIsDue_51 rfl (lv_at hl 2 rfl) ?_
        refine va_get (D := gD G) (ci := 5) (v := .ref (ga G 2)) (C := RX5) (T := TX5) (N := 15) hx hb htu cu_in5 hown hK hP 4 cw_4 rfl 1 (by decide) (htu _ C_45) (fun _ h9 => h9) rfl dX5_whatIsDue_52 ?_
        refine lv_iload_n hx hb dX5_whatIsDue_55 rfl (lv_at hl 3 rfl) ?_
        have hC0 := hC
        refine c_ci (c_runV (As := [.int (nI a9)]) (rest := []) (q0 := 2) (ci := 4) ⟨hx, hb, hml, hown, htu⟩ (y_levelOf l G S (nI a9) hC  H) (cwV 1 htu hU_X5_206 rfl rfl rfl (by decide +kernel) ⟨Nat.le_of_ble_eq_true rfl, Nat.le_of_ble_eq_true rfl⟩) hP hK hD hC hpp cw_2 rfl rfl hl.1 rfl (lv_room (Nat.le_of_ble_eq_true rfl)) dX5_whatIsDue_56) hS hD hh hpp (fun r_38 S_39 H locs hw_40 hP hD hS hC hh hs_41 hpq => ?_)
        clear hpp
        have hpp := hpq
        clear hpq
        obtain ⟨-, hu9, hw_40⟩ := hw_40
        have hu9 := hu9.symm
        subst hu9
        obtain rfl : r_38 = nI (lev z a9) := hw_40.trans (hz.rl ha)
        refine lv_aload_n hx hb dX5_whatIsDue_59 rfl (lv_at hl 2 rfl) ?_
        refine va_get (D := gD G) (ci := 5) (v := .ref (ga G 2)) (C := RX5) (T := TX5) (N := 15) hx hb htu cu_in5 hown hK hP 4 cw_4 rfl 1 (by decide) (htu _ C_45) (fun _ h9 => h9) rfl dX5_whatIsDue_60 ?_
        refine lv_iload_n hx hb dX5_whatIsDue_63 rfl (lv_at hl 4 rfl) ?_
        have hC0 := hC
        refine c_ci (c_runV (As := [.int (nI b9)]) (rest := [.int (nI (lev z a9))]) (q0 := 2) (ci := 4) ⟨hx, hb, hml, hown, htu⟩ (y_levelOf l G S (nI b9) hC  H) (cwV 1 htu hU_X5_206 rfl rfl rfl (by decide +kernel) ⟨Nat.le_of_ble_eq_true rfl, Nat.le_of_ble_eq_true rfl⟩) hP hK hD hC hpp cw_2 rfl rfl hl.1 rfl (lv_room (Nat.le_of_ble_eq_true rfl)) dX5_whatIsDue_64) hS hD hh hpp (fun r_42 S_43 H locs hw_44 hP hD hS hC hh hs_45 hpq => ?_)
        clear hpp
        have hpp := hpq
        clear hpq
        obtain ⟨-, hu9, hw_44⟩ := hw_44
        have hu9 := hu9.symm
        subst hu9
        obtain rfl : r_42 = nI (lev z b9) := hw_44.trans (hz.rl hb9)
        refine lv_icmp_gt (tgt := 72) hx hb dX5_whatIsDue_67 (by decide) (fun c_46 => ?_) (fun c_46 => ?_)
        · skip
          have nc_46 : lev z b9 < lev z a9 := (nI_ltI (a := lev z b9) (b := lev z a9) (by omega) (by omega)).mp c_46
          refine lv_iload_n hx hb dX5_whatIsDue_72 rfl (lv_at hl 1 rfl) ?_
          refine lv_iconst (v := 4) hx hb dX5_whatIsDue_73 (by decide) ?_
          refine lv_icmp_ne (tgt := 79) hx hb dX5_whatIsDue_74 (by decide) (fun c_47 => absurd c_9 c_47) (fun c_47 => ?_)
          refine lv_iconst (v := 5) hx hb dX5_whatIsDue_77 (by decide) ?_
          exact c_iret (v := 5) hx hb hr hK hP hD hS hC hh hpp ⟨AW.rf, ⟨rfl, (Or.inr (Or.inr (Or.inr (Or.inr (Or.inr (Or.inl ⟨rfl, wd5 ra rb nc_9 nc_35 (Or.inr nc_46)⟩))))))⟩⟩ dX5_whatIsDue_78 hlocks
        · skip
          have nc_46 : ¬ lev z b9 < lev z a9 := fun h9 => c_46 ((nI_ltI (a := lev z b9) (b := lev z a9) (by omega) (by omega)).mpr h9)
          refine lv_iconst (v := 4) hx hb dX5_whatIsDue_70 (by decide) ?_
          exact c_iret (v := 4) hx hb hr hK hP hD hS hC hh hpp ⟨AW.rf, ⟨rfl, (Or.inr (Or.inr (Or.inr (Or.inr (Or.inl ⟨rfl, wd4 ra rb nc_36 nc_46 (Or.inr nc_35)⟩)))))⟩⟩ dX5_whatIsDue_71 hlocks
    · skip
      have nc_35 : ¬ lev z a9 < lev z b9 := fun h9 => c_35 ((nI_ltI (a := lev z a9) (b := lev z b9) (by omega) (by omega)).mpr h9)
      refine lv_iconst (v := 3) hx hb dX5_whatIsDue_43 (by decide) ?_
      exact c_iret (v := 3) hx hb hr hK hP hD hS hC hh hpp ⟨AW.rf, ⟨rfl, (Or.inr (Or.inr (Or.inr (Or.inl ⟨rfl, wd3 ra rb nc_9 nc_35⟩))))⟩⟩ dX5_whatIsDue_44 hlocks

