/-! ===== digest: what both programs fold ===== -/
def dgi (f : Nat → Nat → Int32) (i k : Nat) (h : Int64) : Int64 := (List.range k).foldl (fun h j => 31 * h + (f i j).toInt64) h
def dgo (f : Nat → Nat → Int32) (c n : Nat) (h : Int64) : Int64 := (List.range n).foldl (fun h i => dgi f i c h) h
theorem dgi_s {f : Nat → Nat → Int32} {i k : Nat} {h : Int64} : dgi f i (k + 1) h = 31 * dgi f i k h + (f i k).toInt64 := by
  unfold dgi
  rw [List.range_succ, List.foldl_append]
  rfl
theorem dgo_s {f : Nat → Nat → Int32} {c n : Nat} {h : Int64} : dgo f c (n + 1) h = dgi f n c (dgo f c n h) := by
  unfold dgo
  rw [List.range_succ, List.foldl_append]
  rfl
theorem dgi_t {f : Nat → Nat → Int32} {i k : Nat} {h M M' a b : Int64} {r : Int32} (hM : M = dgi f i k h) (e1 : a = 31 * M) (hr : r = f i k) (e2 : b = r.toInt64) (e3 : M' = a + b) : M' = dgi f i (k + 1) h := by
  rw [dgi_s, e3, e1, e2, hM, hr]
theorem dgo_t {f : Nat → Nat → Int32} {i k c : Nat} {h M L : Int64} (hM : M = dgi f i k L) (hk : k = c) (hL : L = dgo f c i h) : M = dgo f c (i + 1) h := by
  rw [dgo_s, hM, hk, hL]
theorem dgo_e {f g : Nat → Nat → Int32} {c d i j V N : Nat} {h L M : Int64} (h1 : M = dgo g c i L) (e1 : i = V) (h2 : L = dgo f d j h) (e2 : j = N) : M = dgo g c V (dgo f d N h) := by
  subst e1
  subst e2
  rw [h1, h2]
theorem dgi_0 {f : Nat → Nat → Int32} {i : Nat} {h : Int64} : dgi f i 0 h = h := rfl
theorem dgo_0 {f : Nat → Nat → Int32} {c : Nat} {h : Int64} : dgo f c 0 h = h := rfl
theorem dgi_cg {f g : Nat → Nat → Int32} {i : Nat} {h : Int64} (k : Nat) (e : ∀ j, j < k → f i j = g i j) : dgi f i k h = dgi g i k h := by
  induction k with
  | zero => exact dgi_0.trans dgi_0.symm
  | succ k ih =>
    have h1 := ih (fun j hj => e j (Nat.lt_succ_of_lt hj))
    have h2 := e k (Nat.lt_succ_self k)
    rw [dgi_s, dgi_s, h1, h2]
theorem dgo_cg {f g : Nat → Nat → Int32} {c : Nat} {h : Int64} (n : Nat) (e : ∀ i, i < n → ∀ j, j < c → f i j = g i j) : dgo f c n h = dgo g c n h := by
  induction n with
  | zero => exact dgo_0.trans dgo_0.symm
  | succ n ih =>
    have h1 := ih (fun i hi => e i (Nat.lt_succ_of_lt hi))
    rw [dgo_s, dgo_s, h1]
    exact dgi_cg c (e n (Nat.lt_succ_self n))
def vrf (z : aS) (j w : Nat) : Int32 := if w = 0 then nI (lev z (z.1 6 j)) else nI (row z (w - 1) (z.1 6 j)).length
theorem vrf_at {z : aS} {j w : Nat} {r : Int32} (hV : nV z ≤ 602) (hj : j < nV z) (hw : w < 3) (h : (r = -1 ∧ ¬ ((∃ j', j' < nV z ∧ nI j = nI j') ∧ ∃ w', w' < 3 ∧ nI w = nI w')) ∨ ∃ j' w', j' < nV z ∧ nI j = nI j' ∧ w' < 3 ∧ nI w = nI w' ∧ r = if w' = 0 then nI (lev z (z.1 6 j')) else nI (row z (w' - 1) (z.1 6 j')).length) : r = vrf z j w := by
  rcases h with ⟨-, h⟩ | ⟨j', w', a1, a2, a3, a4, a5⟩
  · exact absurd ⟨⟨j, hj, rfl⟩, w, hw, rfl⟩ h
  · obtain rfl : j = j' := (nI_eq (by omega) (by omega)).mp a2
    obtain rfl : w = w' := (nI_eq (by omega) (by omega)).mp a4
    exact a5
theorem told_at {F : Nat → Nat → Int32} {N j w : Nat} {r : Int32} (hN : N ≤ 120) (hj : j < N) (hw : w < 16) (h : (r = -1 ∧ ¬ ((∃ j', j' < N ∧ nI j = nI j') ∧ ∃ w', w' < 16 ∧ nI w = nI w')) ∨ ∃ j' w', j' < N ∧ nI j = nI j' ∧ w' < 16 ∧ nI w = nI w' ∧ r = mTold F j' w') : r = mTold F j w := by
  rcases h with ⟨-, h⟩ | ⟨j', w', a1, a2, a3, a4, a5⟩
  · exact absurd ⟨⟨j, hj, rfl⟩, w, hw, rfl⟩ h
  · obtain rfl : j = j' := (nI_eq (by omega) (by omega)).mp a2
    obtain rfl : w = w' := (nI_eq (by omega) (by omega)).mp a4
    exact a5
def x_tf (S : cS) (N n k : Nat) : Int32 := x_tv S N (nI n) (nI k)

set_option maxHeartbeats 4000000 in
set_option maxRecDepth 100000 in
/-- digest -/
theorem xw_digest (l : Launch) (G : cG) (S : cS) (N : Nat) (z : aS) (hC : CL S) (hI : CI S N) (hz : KT S z) (Hs : Heap) : Met l yX7_digest (wC yX7_digest cX7_digest 7 (some .long)) (cRm S 3 68) (cPc G S Hs [.ref (ga G 0)]) (cQl G S Hs (fun v u => AW [] [] S u ∧ (u = S ∧ v = dgo (vrf z) 3 (nV z) (dgo (x_tf S N) 16 N 17)))) (CC - PT S) (12 * (CC - PT S)) (cA G S Hs.size) := by
  refine Met.ofW (cc := cX7_digest) (maxL := 7) (ret := (some .long)) (by decide) rfl ?_
  intro p e s m args below meth c s₁ B hml hv
  obtain ⟨rfl, hsz, hP, hK, hD0, -⟩ := hv
  have hx := B.exec
  have hb := B.bytes
  have hr := B.returns
  have htu : ∀ w ∈ CU, w.before _ s = true := fun w h => atoms_spec (ws := (wC yX7_digest cX7_digest 7 (some .long))) B.pre w (List.mem_cons_of_mem _ h)
  have hown : s.vm.findClass RX7 = some m.cls := findClass_of_methodNamed B.named
  have hlocks := B.notSynchronized
  subst hsz
  have hD : cD (cA G S s.heap.size) G S := cD_self hD0
  have hl := lv_entry ([.ref (ga G 0)]) (n := 7) (Nat.le_of_ble_eq_true rfl)
  rw [lg_entry_eq]
  generalize (lg_sl ([.ref (ga G 0)]) ++ List.replicate (7 - (lg_sl ([.ref (ga G 0)])).length) Slot.unset).toArray = ls at hl ⊢
  have hl : lv_has ls 7 [(0, .ref (ga G 0))] := hl
  obtain ⟨H, hHe⟩ : ∃ H : Heap, H = s.heap := ⟨_, rfl⟩
  rw [← hHe] at hP
  have hS : va_S (cA G S s.heap.size) s.heap H [] := by rw [hHe]; exact va_S.rf
  have hh : HS S S := HS.rf
  have hpp : PT S ≤ PT S := Nat.le_refl _
  have hB9 := hC.1
  refine W.heq hHe ?_
  refine c_ent (S := S) ?_
  obtain ⟨hT, ⟨T, V, X, Y, Z, hY⟩, ⟨h15, h19, h20, h21⟩, ⟨a0, h200, a0l⟩, ⟨a1, h201, a1l⟩, ⟨a2, h202, a2l⟩⟩ := id hI
  obtain ⟨tT, tV, tB, tX⟩ := id hY.2.1
  have hN := hT.1.1
  have hnv9 : nV z ≤ 150 := hz.nv
  refine lv_ldc2 (v := 17) hx hb hown (htu _ C_635) dX7_digest_0 ?_
  refine lv_lstore_n (lv' := [(1, .long 17), (0, .ref (ga G 0))]) hx hb dX7_digest_3 rfl hl (by decide) rfl (fun ls hl => ?_)
  refine lv_aload_n hx hb dX7_digest_4 rfl (lv_at hl 1 rfl) ?_
  refine va_get (D := gD G) (ci := 7) (v := .ref (ga G 1)) (C := RX7) (T := TX7) (N := 4) hx hb htu cu_in7 hown hK hP 0 cw_0 rfl 0 (by decide) (htu _ C_7) (fun _ h9 => h9) rfl dX7_digest_5 ?_
  have hC0 := hC
  refine c_ci (c_runV (As := []) (rest := []) (q0 := 1) (ci := 3) ⟨hx, hb, hml, hown, htu⟩ (tt_size l G S N hC hT.1 H) (cwV 0 htu hU_X7_171 rfl rfl rfl (by decide +kernel) ⟨Nat.le_of_ble_eq_true rfl, Nat.le_of_ble_eq_true rfl⟩) hP hK hD hC hpp cw_1 rfl rfl hl.1 rfl (lv_room (Nat.le_of_ble_eq_true rfl)) dX7_digest_8) hS hD hh hpp (fun r_1 S_2 H locs hw_3 hP hD hS hC hh hs_4 hpq => ?_)
  clear hpp
  have hpp := hpq
  clear hpq
  obtain ⟨-, hu9, hw_3⟩ := hw_3
  have hu9 := hu9.symm
  subst hu9
  obtain rfl : r_1 = nI N := hw_3
  refine lv_istore_n (lv' := [(3, .int (nI N)), (1, .long 17), (0, .ref (ga G 0))]) hx hb dX7_digest_11 rfl hl (by decide) rfl (fun ls hl => ?_)
  refine lv_iconst (v := 0) hx hb dX7_digest_12 (by decide) ?_
  refine lv_istore (lv' := [(4, .int 0), (3, .int (nI N)), (1, .long 17), (0, .ref (ga G 0))]) hx hb dX7_digest_13 hl (by decide) rfl (fun ls hl => ?_)
  refine w_loop (fun j H locs k sl g => ∃ (La : Int64) (ia : Nat) (ls : Array Slot), ia + j = N ∧ La = dgo (x_tf S N) 16 ia 17 ∧ k = PT S - PT S ∧ sl = 12 * (PT S - PT S) ∧ cP G S H ∧ cD (cA G S s.heap.size) G S ∧ va_S (cA G S s.heap.size) s.heap H locs ∧ lv_has ls 7 [(0, .ref (ga G 0)), (1, .long La), (3, .int (nI N)), (4, .int (nI ia))] ∧ g = F0 m 15 ls []) ?_ ?_ N _ _ _ _ _ ⟨17, 0, ls, by omega, dgo_0.symm, rfl, rfl, hP, hD, hS, lv_sub hl [3, 2, 1, 0] rfl, rfl⟩
  · intro H locs k sl g hI
    obtain ⟨La, ia, ls, hua0, hua1, rfl, rfl, hP, hD, hS, hl, rfl⟩ := hI
    refine lv_iload hx hb dX7_digest_15 (lv_at hl 3 rfl) ?_
    refine lv_iload_n hx hb dX7_digest_17 rfl (lv_at hl 2 rfl) ?_
    refine lv_icmp_ge (tgt := 59) hx hb dX7_digest_18 (by decide) (fun c_5 => ?_) (fun c_5 => absurd (nI_le (by omega) (by omega)) c_5)
    refine lv_aload_n hx hb dX7_digest_59 rfl (lv_at hl 0 rfl) ?_
    refine va_get (D := gD G) (ci := 7) (v := .ref (ga G 4)) (C := RX7) (T := TX7) (N := 4) hx hb htu cu_in7 hown hK hP 0 cw_0 rfl 1 (by decide) (htu _ C_11) (fun _ h9 => h9) rfl dX7_digest_60 ?_
    refine va_get (D := gD G) (ci := 5) (v := .ref (ga G 2)) (C := RX5) (T := TX5) (N := 15) hx hb htu cu_in5 hown hK hP 4 cw_4 rfl 1 (by decide) (htu _ C_520) (fun _ h9 => h9) rfl dX7_digest_63 ?_
    have hC0 := hC
    refine c_ci (c_runV (As := []) (rest := []) (q0 := 2) (ci := 4) ⟨hx, hb, hml, hown, htu⟩ (y_variableCount l G S  hC  H) (cwV 0 htu hU_X7_174 rfl rfl rfl (by decide +kernel) ⟨Nat.le_of_ble_eq_true rfl, Nat.le_of_ble_eq_true rfl⟩) hP hK hD hC hpp cw_2 rfl rfl hl.1 rfl (lv_room (Nat.le_of_ble_eq_true rfl)) dX7_digest_66) hS hD hh hpp (fun r_6 S_7 H locs hw_8 hP hD hS hC hh hs_9 hpq => ?_)
    clear hpp
    have hpp := hpq
    clear hpq
    obtain ⟨-, hu9, hw_8⟩ := hw_8
    have hu9 := hu9.symm
    subst hu9
    obtain rfl : r_6 = nI (nV z) := hw_8.trans (congrArg nI hz.1.2.2.2.2.1)
    refine lv_istore (lv' := [(4, .int (nI (nV z))), (0, .ref (ga G 0)), (1, .long La), (3, .int (nI N))]) hx hb dX7_digest_69 hl (by decide) rfl (fun ls hl => ?_)
    refine lv_iconst (v := 0) hx hb dX7_digest_71 (by decide) ?_
    refine lv_istore (lv' := [(5, .int 0), (4, .int (nI (nV z))), (0, .ref (ga G 0)), (1, .long La), (3, .int (nI N))]) hx hb dX7_digest_72 hl (by decide) rfl (fun ls hl => ?_)
    refine w_loop (fun j H locs k sl g => ∃ (Lb : Int64) (ib : Nat) (ls : Array Slot), ib + j = (nV z) ∧ Lb = dgo (vrf z) 3 ib La ∧ k = PT S - PT S ∧ sl = 12 * (PT S - PT S) ∧ cP G S H ∧ cD (cA G S s.heap.size) G S ∧ va_S (cA G S s.heap.size) s.heap H locs ∧ lv_has ls 7 [(0, .ref (ga G 0)), (1, .long Lb), (3, .int (nI N)), (4, .int (nI (nV z))), (5, .int (nI ib))] ∧ g = F0 m 74 ls []) ?_ ?_ ((nV z)) _ _ _ _ _ ⟨La, 0, ls, by omega, dgo_0.symm, rfl, rfl, hP, hD, hS, lv_sub hl [2, 3, 4, 1, 0] rfl, rfl⟩
    · intro H locs k sl g hI
      obtain ⟨Lb, ib, ls, hub0, hub1, rfl, rfl, hP, hD, hS, hl, rfl⟩ := hI
      refine lv_iload hx hb dX7_digest_74 (lv_at hl 4 rfl) ?_
      refine lv_iload hx hb dX7_digest_76 (lv_at hl 3 rfl) ?_
      refine lv_icmp_ge (tgt := 118) hx hb dX7_digest_78 (by decide) (fun c_10 => ?_) (fun c_10 => absurd (nI_le (by omega) (by omega)) c_10)
      refine lv_lload_n hx hb dX7_digest_118 rfl (lv_at hl 1 rfl) ?_
      exact c_lret (v := Lb) hx hb hr hK hP hD hS hC hh hpp ⟨AW.rf, ⟨rfl, dgo_e hub1 hub0 hua1 hua0⟩⟩ dX7_digest_119 hlocks
    · intro j ihub H locs k sl g hI
      obtain ⟨Lb, ib, ls, hub0, hub1, rfl, rfl, hP, hD, hS, hl, rfl⟩ := hI
      refine lv_iload hx hb dX7_digest_74 (lv_at hl 4 rfl) ?_
      refine lv_iload hx hb dX7_digest_76 (lv_at hl 3 rfl) ?_
      refine lv_icmp_ge (tgt := 118) hx hb dX7_digest_78 (by decide) (fun c_11 => absurd c_11 (nI_ge (by omega) (by omega))) (fun c_11 => ?_)
      refine lv_iconst (v := 0) hx hb dX7_digest_81 (by decide) ?_
      refine lv_istore (lv' := [(6, .int 0), (0, .ref (ga G 0)), (1, .long Lb), (3, .int (nI N)), (4, .int (nI (nV z))), (5, .int (nI ib))]) hx hb dX7_digest_82 hl (by decide) rfl (fun ls hl => ?_)
      refine w_loop (fun j H locs k sl g => ∃ (Mb : Int64) (wb : Nat) (ls : Array Slot), wb + j = 3 ∧ Mb = dgi (vrf z) ib wb Lb ∧ k = PT S - PT S ∧ sl = 12 * (PT S - PT S) ∧ cP G S H ∧ cD (cA G S s.heap.size) G S ∧ va_S (cA G S s.heap.size) s.heap H locs ∧ lv_has ls 7 [(0, .ref (ga G 0)), (1, .long Mb), (3, .int (nI N)), (4, .int (nI (nV z))), (5, .int (nI ib)), (6, .int (nI wb))] ∧ g = F0 m 84 ls []) ?_ ?_ 3 _ _ _ _ _ ⟨Lb, 0, ls, by omega, dgi_0.symm, rfl, rfl, hP, hD, hS, lv_sub hl [1, 2, 3, 4, 5, 0] rfl, rfl⟩
      · intro H locs k sl g hI
        obtain ⟨Mb, wb, ls, hvb0, hvb1, rfl, rfl, hP, hD, hS, hl, rfl⟩ := hI
        refine lv_iload hx hb dX7_digest_84 (lv_at hl 5 rfl) ?_
        refine lv_iconst (v := 3) hx hb dX7_digest_86 (by decide) ?_
        refine lv_icmp_ge (tgt := 112) hx hb dX7_digest_87 (by decide) (fun c_12 => ?_) (fun c_12 => absurd (by rw [show wb = 3 by omega]; decide) c_12)
        refine lv_iinc (v := nI (ib + 1)) (lv' := [(5, .int (nI (ib + 1))), (0, .ref (ga G 0)), (1, .long Mb), (3, .int (nI N)), (4, .int (nI (nV z))), (6, .int (nI wb))]) hx hb dX7_digest_112 hl (k := 4) rfl (nI_1 ib) (by decide) rfl (fun ls hl => ?_)
        refine lv_goto (tgt := 74) hx hb dX7_digest_115 (by decide) ?_
        exact ihub _ _ _ _ _ ⟨Mb, ib + 1, ls, by omega, dgo_t hvb1 hvb0 hub1, rfl, rfl, hP, hD, hS, lv_sub hl [1, 2, 3, 4, 0] rfl, rfl⟩
      · intro j ihvb H locs k sl g hI
        obtain ⟨Mb, wb, ls, hvb0, hvb1, rfl, rfl, hP, hD, hS, hl, rfl⟩ := hI
        refine lv_iload hx hb dX7_digest_84 (lv_at hl 5 rfl) ?_
        refine lv_iconst (v := 3) hx hb dX7_digest_86 (by decide) ?_
        refine lv_icmp_ge (tgt := 112) hx hb dX7_digest_87 (by decide) (fun c_13 => absurd c_13 (fun h => by have h2 := (nI_leI (a := 3) (b := wb) (by omega) (by omega)).mp h; omega)) (fun c_13 => ?_)
        refine lv_ldc2 (v := 31) hx hb hown (htu _ C_636) dX7_digest_90 ?_
        refine lv_lload_n hx hb dX7_digest_93 rfl (lv_at hl 1 rfl) ?_
        refine lv_lmul hx hb dX7_digest_94 ?_
        refine lv_topl (fun f_14 ef_14 => ?_)
        refine lv_aload_n hx hb dX7_digest_95 rfl (lv_at hl 0 rfl) ?_
        refine lv_iload hx hb dX7_digest_96 (lv_at hl 4 rfl) ?_
        refine lv_iload hx hb dX7_digest_98 (lv_at hl 5 rfl) ?_
        have hC0 := hC
        refine c_ci (c_runV (As := [.int (nI ib), .int (nI wb)]) (rest := [.long f_14]) (q0 := 0) (ci := 7) ⟨hx, hb, hml, hown, htu⟩ (xw_variable l G S N z (nI ib) (nI wb) hC hI hz H) (cwV 2 htu hU_X7_187 rfl rfl rfl (by decide +kernel) ⟨Nat.le_of_ble_eq_true rfl, Nat.le_of_ble_eq_true rfl⟩) hP hK hD hC hpp cw_0 rfl rfl hl.1 rfl (lv_room (Nat.le_of_ble_eq_true rfl)) dX7_digest_100) hS hD hh hpp (fun r_15 S_16 H locs hw_17 hP hD hS hC hh hs_18 hpq => ?_)
        clear hpp
        have hpp := hpq
        clear hpq
        obtain ⟨-, hu9, hw_17⟩ := hw_17
        have hu9 := hu9.symm
        subst hu9
        refine lv_i2l hx hb dX7_digest_103 (v := _) rfl ?_
        refine lv_topl (fun f_19 ef_19 => ?_)
        refine lv_ladd hx hb dX7_digest_104 ?_
        refine lv_topl (fun f_20 ef_20 => ?_)
        refine lv_lstore_n (lv' := [(1, .long f_20), (0, .ref (ga G 0)), (3, .int (nI N)), (4, .int (nI (nV z))), (5, .int (nI ib)), (6, .int (nI wb))]) hx hb dX7_digest_105 rfl hl (by decide) rfl (fun ls hl => ?_)
        refine lv_iinc (v := nI (wb + 1)) (lv' := [(6, .int (nI (wb + 1))), (1, .long f_20), (0, .ref (ga G 0)), (3, .int (nI N)), (4, .int (nI (nV z))), (5, .int (nI ib))]) hx hb dX7_digest_106 hl (k := 5) rfl (nI_1 wb) (by decide) rfl (fun ls hl => ?_)
        refine lv_goto (tgt := 84) hx hb dX7_digest_109 (by decide) ?_
        exact ihvb _ _ _ _ _ ⟨f_20, wb + 1, ls, by omega, dgi_t hvb1 ef_14 (vrf_at (Nat.le_trans hz.nv (by decide)) (show ib < nV z by omega) (show wb < 3 by omega) hw_17) ef_19 ef_20, rfl, rfl, hP, hD, hS, lv_sub hl [2, 1, 3, 4, 5, 0] rfl, rfl⟩
  · intro j ihua H locs k sl g hI
    obtain ⟨La, ia, ls, hua0, hua1, rfl, rfl, hP, hD, hS, hl, rfl⟩ := hI
    refine lv_iload hx hb dX7_digest_15 (lv_at hl 3 rfl) ?_
    refine lv_iload_n hx hb dX7_digest_17 rfl (lv_at hl 2 rfl) ?_
    refine lv_icmp_ge (tgt := 59) hx hb dX7_digest_18 (by decide) (fun c_21 => absurd c_21 (nI_ge (by omega) (by omega))) (fun c_21 => ?_)
    refine lv_iconst (v := 0) hx hb dX7_digest_21 (by decide) ?_
    refine lv_istore (lv' := [(5, .int 0), (0, .ref (ga G 0)), (1, .long La), (3, .int (nI N)), (4, .int (nI ia))]) hx hb dX7_digest_22 hl (by decide) rfl (fun ls hl => ?_)
    refine w_loop (fun j H locs k sl g => ∃ (Ma : Int64) (wa : Nat) (ls : Array Slot), wa + j = 16 ∧ Ma = dgi (x_tf S N) ia wa La ∧ k = PT S - PT S ∧ sl = 12 * (PT S - PT S) ∧ cP G S H ∧ cD (cA G S s.heap.size) G S ∧ va_S (cA G S s.heap.size) s.heap H locs ∧ lv_has ls 7 [(0, .ref (ga G 0)), (1, .long Ma), (3, .int (nI N)), (4, .int (nI ia)), (5, .int (nI wa))] ∧ g = F0 m 24 ls []) ?_ ?_ 16 _ _ _ _ _ ⟨La, 0, ls, by omega, dgi_0.symm, rfl, rfl, hP, hD, hS, lv_sub hl [1, 2, 3, 4, 0] rfl, rfl⟩
    · intro H locs k sl g hI
      obtain ⟨Ma, wa, ls, hva0, hva1, rfl, rfl, hP, hD, hS, hl, rfl⟩ := hI
      refine lv_iload hx hb dX7_digest_24 (lv_at hl 4 rfl) ?_
      refine lv_bipush (v := 16) hx hb dX7_digest_26 (by decide) ?_
      refine lv_icmp_ge (tgt := 53) hx hb dX7_digest_28 (by decide) (fun c_22 => ?_) (fun c_22 => absurd (by rw [show wa = 16 by omega]; decide) c_22)
      refine lv_iinc (v := nI (ia + 1)) (lv' := [(4, .int (nI (ia + 1))), (0, .ref (ga G 0)), (1, .long Ma), (3, .int (nI N)), (5, .int (nI wa))]) hx hb dX7_digest_53 hl (k := 3) rfl (nI_1 ia) (by decide) rfl (fun ls hl => ?_)
      refine lv_goto (tgt := 15) hx hb dX7_digest_56 (by decide) ?_
      exact ihua _ _ _ _ _ ⟨Ma, ia + 1, ls, by omega, dgo_t hva1 hva0 hua1, rfl, rfl, hP, hD, hS, lv_sub hl [1, 2, 3, 0] rfl, rfl⟩
    · intro j ihva H locs k sl g hI
      obtain ⟨Ma, wa, ls, hva0, hva1, rfl, rfl, hP, hD, hS, hl, rfl⟩ := hI
      refine lv_iload hx hb dX7_digest_24 (lv_at hl 4 rfl) ?_
      refine lv_bipush (v := 16) hx hb dX7_digest_26 (by decide) ?_
      refine lv_icmp_ge (tgt := 53) hx hb dX7_digest_28 (by decide) (fun c_23 => absurd c_23 (fun h => by have h2 := (nI_leI (a := 16) (b := wa) (by omega) (by omega)).mp h; omega)) (fun c_23 => ?_)
      refine lv_ldc2 (v := 31) hx hb hown (htu _ C_636) dX7_digest_31 ?_
      refine lv_lload_n hx hb dX7_digest_34 rfl (lv_at hl 1 rfl) ?_
      refine lv_lmul hx hb dX7_digest_35 ?_
      refine lv_topl (fun f_24 ef_24 => ?_)
      refine lv_aload_n hx hb dX7_digest_36 rfl (lv_at hl 0 rfl) ?_
      refine lv_iload hx hb dX7_digest_37 (lv_at hl 3 rfl) ?_
      refine lv_iload hx hb dX7_digest_39 (lv_at hl 4 rfl) ?_
      have hC0 := hC
      refine c_ci (c_runV (As := [.int (nI ia), .int (nI wa)]) (rest := [.long f_24]) (q0 := 0) (ci := 7) ⟨hx, hb, hml, hown, htu⟩ (x_told l G S N (nI ia) (nI wa) hC hI H) (cwV 2 htu hU_X7_184 rfl rfl rfl (by decide +kernel) ⟨Nat.le_of_ble_eq_true rfl, Nat.le_of_ble_eq_true rfl⟩) hP hK hD hC hpp cw_0 rfl rfl hl.1 rfl (lv_room (Nat.le_of_ble_eq_true rfl)) dX7_digest_41) hS hD hh hpp (fun r_25 S_26 H locs hw_27 hP hD hS hC hh hs_28 hpq => ?_)
      clear hpp
      have hpp := hpq
      clear hpq
      obtain ⟨-, hu9, hw_27⟩ := hw_27
      have hu9 := hu9.symm
      subst hu9
      refine lv_i2l hx hb dX7_digest_44 (v := _) rfl ?_
      refine lv_topl (fun f_29 ef_29 => ?_)
      refine lv_ladd hx hb dX7_digest_45 ?_
      refine lv_topl (fun f_30 ef_30 => ?_)
      refine lv_lstore_n (lv' := [(1, .long f_30), (0, .ref (ga G 0)), (3, .int (nI N)), (4, .int (nI ia)), (5, .int (nI wa))]) hx hb dX7_digest_46 rfl hl (by decide) rfl (fun ls hl => ?_)
      refine lv_iinc (v := nI (wa + 1)) (lv' := [(5, .int (nI (wa + 1))), (1, .long f_30), (0, .ref (ga G 0)), (3, .int (nI N)), (4, .int (nI ia))]) hx hb dX7_digest_47 hl (k := 4) rfl (nI_1 wa) (by decide) rfl (fun ls hl => ?_)
      refine lv_goto (tgt := 24) hx hb dX7_digest_50 (by decide) ?_
      exact ihva _ _ _ _ _ ⟨f_30, wa + 1, ls, by omega, dgi_t hva1 ef_24 hw_27 ef_29 ef_30, rfl, rfl, hP, hD, hS, lv_sub hl [2, 1, 3, 4, 0] rfl, rfl⟩

