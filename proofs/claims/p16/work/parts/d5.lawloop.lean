theorem dL_law_18 : decode cL_law 18 = .ok (.iload_n 3, 1) := by decide +kernel
theorem dL_law_19 : decode cL_law 19 = .ok (.aload_n 0, 1) := by decide +kernel
theorem dL_law_20 : decode cL_law 20 = .ok (.arraylength, 1) := by decide +kernel
theorem dL_law_21 : decode cL_law 21 = .ok (.bipush 6, 2) := by decide +kernel
theorem dL_law_23 : decode cL_law 23 = .ok (.isub, 1) := by decide +kernel
theorem dL_law_24 : decode cL_law 24 = .ok (.if_icmp .gt 522, 3) := by decide +kernel
theorem dL_law_546 : decode cL_law 546 = .ok (.iconst 1, 1) := by decide +kernel
theorem dL_law_547 : decode cL_law 547 = .ok (.ireturn, 1) := by decide +kernel
theorem dL_law_27 : decode cL_law 27 = .ok (.aload_n 0, 1) := by decide +kernel
theorem dL_law_28 : decode cL_law 28 = .ok (.iload_n 3, 1) := by decide +kernel
theorem dL_law_29 : decode cL_law 29 = .ok (.iaload, 1) := by decide +kernel
theorem dL_law_30 : decode cL_law 30 = .ok (.bipush 15, 2) := by decide +kernel
theorem dL_law_32 : decode cL_law 32 = .ok (.iand, 1) := by decide +kernel
theorem dL_law_540 : decode cL_law 540 = .ok (.iinc 3 6, 3) := by decide +kernel
theorem dL_law_543 : decode cL_law 543 = .ok (.goto (-525), 3) := by decide +kernel
set_option maxHeartbeats 4000000 in
set_option maxRecDepth 100000 in
theorem lw_loop {p : Program} {l : Launch} {e : Env} {s : State} {m : MethodId} {below : List Frame} {meth : Method} {c : Code} {b L : Nat} {xs : Nat → Int32} {G : cG} {M : mG} {tk : Nat} (hx : p.tables.exec = Jvm.exec) (hb : c.code = code) (hr : meth.sig.returnType = ret) (hml : c.maxLocals = 4) (hown : s.vm.findClass RL = some m.cls) (hts : ∀ w ∈ lw_tbl, w.before #[Value.ref b] s = true) (hX : va_X b L xs s s.heap) (hbl : b < s.heap.size) (hbA : ¬ lA s b) (hlocks : meth.locks = false) (hKc : cK G s) (hKm : mK M s) (hDD : mDD M) (hZ : ZT tk (lA s) s s.heap) (hLn : L ≤ 3072) {S : cS} {tr : aM} {N : Nat} {o : Nat → Int32} {F : Nat → Nat → Int32} {H : Heap} {locs : List Loc} {ls : Array Slot} (hR : LR S tr N o F) (hT : TY9 S o F 0) (hz : TRz tr N F) (hW : LWd s G M S o F H locs) (hl : lv_has ls 4 [(0, .ref b), (1, .ref (ga G 0)), (2, .ref (mh M)), (3, .int (nI (6 * 0)))]) : W p l e room_1 s m #[Value.ref b] below meth c H locs (K0 + PT S) (N0s + 12 * PT S) (lw_Z below #[Value.ref b] s) (F0 m 18 ls []) := by
  refine w_loop (fun n H locs k sl g => ∃ (i : Nat) (S : cS) (tr : aM) (N : Nat) (o : Nat → Int32) (F : Nat → Nat → Int32) (ls : Array Slot), i + n = L / 6 ∧ k = K0 + PT S ∧ sl = N0s + 12 * PT S ∧ LR S tr N o F ∧ TY9 S o F i ∧ TRz tr N F ∧ LWd s G M S o F H locs ∧ lv_has ls 4 [(0, .ref b), (1, .ref (ga G 0)), (2, .ref (mh M)), (3, .int (nI (6 * i)))] ∧ g = F0 m 18 ls []) ?_ ?_ (L / 6) _ _ _ _ _ ⟨0, S, tr, N, o, F, ls, Nat.zero_add _, rfl, rfl, hR, hT, hz, hW, hl, rfl⟩
  · intro H locs k sl g hI
    obtain ⟨i, S, tr, N, o, F, ls, hi, rfl, rfl, hR, hT, hz, hW, hl, rfl⟩ := hI
    have hi6 : 6 * i ≤ L ∧ ¬ 6 * i + 6 ≤ L := by omega
    refine lv_iload_n hx hb dL_law_18 rfl (lv_at hl 3 rfl) ?_
    refine lv_aload_n hx hb dL_law_19 rfl (lv_at hl 0 rfl) ?_
    refine va_slen hx hb hX hbl hbA hW.2.2.2.2.2 dL_law_20 ?_
    refine lv_bipush (v := 6) hx hb dL_law_21 (by decide) ?_
    refine lv_isub hx hb dL_law_23 ?_
    refine lv_icmp_gt (tgt := 546) hx hb dL_law_24 (by decide) (fun c9 => ?_) (fun c9 => absurd ((loop_gt hLn hi6.1).mpr hi6.2) c9)
    refine lv_iconst (v := 1) hx hb dL_law_546 (by decide) ?_
    refine va_forget (fun q hq => hW.2.2.2.2.2.2.2 q hq) ?_
    have hbd := l_bud hW.2.2.1
    have e1 : room_1.cells = 600000 := rfl
    have e2 : room_1.slots = 7302250 := rfl
    rw [e1, e2] at hbd
    refine W.widen (k := 600000) (n := 7302250) (by omega) (by omega) ?_
    exact lw_ret hx hb hr hlocks dL_law_547
  · intro n ih H locs k sl g hI
    obtain ⟨i, S, tr, N, o, F, ls, hi, rfl, rfl, hR, hT, hz, hW, hl, rfl⟩ := hI
    have hi6 : 6 * i + 6 ≤ L := by omega
    refine lv_iload_n hx hb dL_law_18 rfl (lv_at hl 3 rfl) ?_
    refine lv_aload_n hx hb dL_law_19 rfl (lv_at hl 0 rfl) ?_
    refine va_slen hx hb hX hbl hbA hW.2.2.2.2.2 dL_law_20 ?_
    refine lv_bipush (v := 6) hx hb dL_law_21 (by decide) ?_
    refine lv_isub hx hb dL_law_23 ?_
    refine lv_icmp_gt (tgt := 546) hx hb dL_law_24 (by decide) (fun c9 => absurd hi6 ((loop_gt hLn (by omega)).mp c9)) (fun c9 => ?_)
    refine lv_aload_n hx hb dL_law_27 rfl (lv_at hl 0 rfl) ?_
    refine lv_iload_n hx hb dL_law_28 rfl (lv_at hl 3 rfl) ?_
    refine va_sld hx hb hX hbl hbA hW.2.2.2.2.2 (vp_in_nI (show 6 * i < L by omega) (by omega)) dL_law_29 ?_
    refine lv_topi (fun f1 ef1 => ?_)
    have ef1c : f1 = xs (6 * i) := ef1.trans (congrArg xs (nI_clamp (by omega)))
    subst ef1c
    refine lv_bipush (v := 15) hx hb dL_law_30 (by decide) ?_
    refine lv_iand hx hb dL_law_32 ?_
    refine lw_round (tk := tk) hx hb hml hown hts hX hbl hbA hKc hKm hDD hZ hLn hi6 hR hT hz hW hl (fun S tr N o F H locs hR hT hz hW => ?_)
    refine lv_iinc (v := nI (6 * (i + 1))) (lv' := [(3, .int (nI (6 * (i + 1)))), (0, .ref b), (1, .ref (ga G 0)), (2, .ref (mh M))]) hx hb dL_law_540 hl (k := 3) rfl ((nI_add (6 * i) 6).trans (congrArg nI (by omega))) (by decide) rfl (fun ls hl => ?_)
    refine lv_goto (tgt := 18) hx hb dL_law_543 (by decide) ?_
    exact ih _ _ _ _ _ ⟨i + 1, S, tr, N, o, F, ls, by omega, rfl, rfl, hR, hT, hz, hW, lv_sub hl [1, 2, 3, 0] rfl, rfl⟩

