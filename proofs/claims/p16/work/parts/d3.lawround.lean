theorem dL_law_33 : decode cL_law 33 = .ok (.tableswitch 507 0 14 #[75, 138, 181, 214, 237, 250, 263, 286, 319, 388, 421, 444, 457, 470, 493], 75) := by decide +kernel
set_option maxHeartbeats 4000000 in
set_option maxRecDepth 100000 in
theorem lw_round {p : Program} {l : Launch} {e : Env} {s : State} {m : MethodId} {below : List Frame} {meth : Method} {c : Code} {b L : Nat} {xs : Nat → Int32} {G : cG} {M : mG} {tk : Nat} {Q : State → Prop} (hx : p.tables.exec = Jvm.exec) (hb : c.code = code) (hml : c.maxLocals = 4) (hown : s.vm.findClass RL = some m.cls) (hts : ∀ w ∈ lw_tbl, w.before #[Value.ref b] s = true) (hX : va_X b L xs s s.heap) (hbl : b < s.heap.size) (hbA : ¬ lA s b) (hKc : cK G s) (hKm : mK M s) (hDD : mDD M) (hZ : ZT tk (lA s) s s.heap) (hLn : L ≤ 3072) {S : cS} {tr : aM} {N i : Nat} {o : Nat → Int32} {F : Nat → Nat → Int32} {H : Heap} {locs : List Loc} {ls : Array Slot} (hi : 6 * i + 6 ≤ L) (hR : LR S tr N o F) (hT : TY9 S o F i) (hz : TRz tr N F) (hW : LWd s G M S o F H locs) (hl : lv_has ls 4 [(0, .ref b), (1, .ref (ga G 0)), (2, .ref (mh M)), (3, .int (nI (6 * i)))]) (kk : ∀ (S : cS) (tr : aM) (N : Nat) (o : Nat → Int32) (F : Nat → Nat → Int32) (H : Heap) (locs : List Loc), LR S tr N o F → TY9 S o F (i + 1) → TRz tr N F → LWd s G M S o F H locs → W p l e room_1 s m #[Value.ref b] below meth c H locs (K0 + PT S) (N0s + 12 * PT S) Q (F0 m 540 ls [])) : W p l e room_1 s m #[Value.ref b] below meth c H locs (K0 + PT S) (N0s + 12 * PT S) Q (F0 m 33 ls [.int (xs (6 * i) &&& 15)]) := by
  obtain ⟨f, hf⟩ : ∃ f : Int32, f = xs (6 * i) &&& 15 := ⟨_, rfl⟩
  rw [← hf]
  rcases Decidable.em (f = 0) with c0 | c0
  · refine lv_tableIn (tgt := 108) hx hb dL_law_33 (by rw [c0]; decide) (by rw [c0]; decide) (by rw [c0]; rfl) (by decide) ?_
    exact lw_c0 (tk := tk) hx hb hml hown hts hX hbl hbA hKc hKm hDD hZ hLn hi hR hT hz hW hl kk
  rcases Decidable.em (f = 1) with c1 | c1
  · refine lv_tableIn (tgt := 171) hx hb dL_law_33 (by rw [c1]; decide) (by rw [c1]; decide) (by rw [c1]; rfl) (by decide) ?_
    exact lw_c1 (tk := tk) hx hb hml hown hts hX hbl hbA hKc hKm hDD hZ hLn hi hR hT hz hW hl kk
  rcases Decidable.em (f = 2) with c2 | c2
  · refine lv_tableIn (tgt := 214) hx hb dL_law_33 (by rw [c2]; decide) (by rw [c2]; decide) (by rw [c2]; rfl) (by decide) ?_
    exact lw_c2 (tk := tk) hx hb hml hown hts hX hbl hbA hKc hKm hDD hZ hLn hi hR hT hz hW hl kk
  rcases Decidable.em (f = 3) with c3 | c3
  · refine lv_tableIn (tgt := 247) hx hb dL_law_33 (by rw [c3]; decide) (by rw [c3]; decide) (by rw [c3]; rfl) (by decide) ?_
    exact lw_c3 (tk := tk) hx hb hml hown hts hX hbl hbA hKc hKm hDD hZ hLn hi hR hT hz hW hl kk
  rcases Decidable.em (f = 4) with c4 | c4
  · refine lv_tableIn (tgt := 270) hx hb dL_law_33 (by rw [c4]; decide) (by rw [c4]; decide) (by rw [c4]; rfl) (by decide) ?_
    exact lw_c4 (tk := tk) hx hb hml hown hts hX hbl hbA hKc hKm hDD hZ hLn hi hR hT hz hW hl kk
  rcases Decidable.em (f = 5) with c5 | c5
  · refine lv_tableIn (tgt := 283) hx hb dL_law_33 (by rw [c5]; decide) (by rw [c5]; decide) (by rw [c5]; rfl) (by decide) ?_
    exact lw_c5 (tk := tk) hx hb hml hown hts hX hbl hbA hKc hKm hDD hZ hLn hi hR hT hz hW hl kk
  rcases Decidable.em (f = 6) with c6 | c6
  · refine lv_tableIn (tgt := 296) hx hb dL_law_33 (by rw [c6]; decide) (by rw [c6]; decide) (by rw [c6]; rfl) (by decide) ?_
    exact lw_c6 (tk := tk) hx hb hml hown hts hX hbl hbA hKc hKm hDD hZ hLn hi hR hT hz hW hl kk
  rcases Decidable.em (f = 7) with c7 | c7
  · refine lv_tableIn (tgt := 319) hx hb dL_law_33 (by rw [c7]; decide) (by rw [c7]; decide) (by rw [c7]; rfl) (by decide) ?_
    exact lw_c7 (tk := tk) hx hb hml hown hts hX hbl hbA hKc hKm hDD hZ hLn hi hR hT hz hW hl kk
  rcases Decidable.em (f = 8) with c8 | c8
  · refine lv_tableIn (tgt := 352) hx hb dL_law_33 (by rw [c8]; decide) (by rw [c8]; decide) (by rw [c8]; rfl) (by decide) ?_
    exact lw_c8 (tk := tk) hx hb hml hown hts hX hbl hbA hKc hKm hDD hZ hLn hi hR hT hz hW hl kk
  rcases Decidable.em (f = 9) with c9 | c9
  · refine lv_tableIn (tgt := 421) hx hb dL_law_33 (by rw [c9]; decide) (by rw [c9]; decide) (by rw [c9]; rfl) (by decide) ?_
    exact lw_c9 (tk := tk) hx hb hml hown hts hX hbl hbA hKc hKm hDD hZ hLn hi hR hT hz hW hl kk
  rcases Decidable.em (f = 10) with c10 | c10
  · refine lv_tableIn (tgt := 454) hx hb dL_law_33 (by rw [c10]; decide) (by rw [c10]; decide) (by rw [c10]; rfl) (by decide) ?_
    exact lw_c10 (tk := tk) hx hb hml hown hts hX hbl hbA hKc hKm hDD hZ hLn hi hR hT hz hW hl kk
  rcases Decidable.em (f = 11) with c11 | c11
  · refine lv_tableIn (tgt := 477) hx hb dL_law_33 (by rw [c11]; decide) (by rw [c11]; decide) (by rw [c11]; rfl) (by decide) ?_
    exact lw_c11 (tk := tk) hx hb hml hown hts hX hbl hbA hKc hKm hDD hZ hLn hi hR hT hz hW hl kk
  rcases Decidable.em (f = 12) with c12 | c12
  · refine lv_tableIn (tgt := 490) hx hb dL_law_33 (by rw [c12]; decide) (by rw [c12]; decide) (by rw [c12]; rfl) (by decide) ?_
    exact lw_c12 (tk := tk) hx hb hml hown hts hX hbl hbA hKc hKm hDD hZ hLn hi hR hT hz hW hl kk
  rcases Decidable.em (f = 13) with c13 | c13
  · refine lv_tableIn (tgt := 503) hx hb dL_law_33 (by rw [c13]; decide) (by rw [c13]; decide) (by rw [c13]; rfl) (by decide) ?_
    exact lw_c13 (tk := tk) hx hb hml hown hts hX hbl hbA hKc hKm hDD hZ hLn hi hR hT hz hW hl kk
  rcases Decidable.em (f = 14) with c14 | c14
  · refine lv_tableIn (tgt := 526) hx hb dL_law_33 (by rw [c14]; decide) (by rw [c14]; decide) (by rw [c14]; rfl) (by decide) ?_
    exact lw_c14 (tk := tk) hx hb hml hown hts hX hbl hbA hKc hKm hDD hZ hLn hi hR hT hz hW hl kk
  have hout : f.toInt < 0 ∨ 14 < f.toInt := tb_out f 0 14 (fun z h1 h2 e => by
    rcases (show z = 0 ∨ z = 1 ∨ z = 2 ∨ z = 3 ∨ z = 4 ∨ z = 5 ∨ z = 6 ∨ z = 7 ∨ z = 8 ∨ z = 9 ∨ z = 10 ∨ z = 11 ∨ z = 12 ∨ z = 13 ∨ z = 14 by omega) with rfl | rfl | rfl | rfl | rfl | rfl | rfl | rfl | rfl | rfl | rfl | rfl | rfl | rfl | rfl
    · exact c0 (Int32.toInt_inj.mp (e.trans (by decide)))
    · exact c1 (Int32.toInt_inj.mp (e.trans (by decide)))
    · exact c2 (Int32.toInt_inj.mp (e.trans (by decide)))
    · exact c3 (Int32.toInt_inj.mp (e.trans (by decide)))
    · exact c4 (Int32.toInt_inj.mp (e.trans (by decide)))
    · exact c5 (Int32.toInt_inj.mp (e.trans (by decide)))
    · exact c6 (Int32.toInt_inj.mp (e.trans (by decide)))
    · exact c7 (Int32.toInt_inj.mp (e.trans (by decide)))
    · exact c8 (Int32.toInt_inj.mp (e.trans (by decide)))
    · exact c9 (Int32.toInt_inj.mp (e.trans (by decide)))
    · exact c10 (Int32.toInt_inj.mp (e.trans (by decide)))
    · exact c11 (Int32.toInt_inj.mp (e.trans (by decide)))
    · exact c12 (Int32.toInt_inj.mp (e.trans (by decide)))
    · exact c13 (Int32.toInt_inj.mp (e.trans (by decide)))
    · exact c14 (Int32.toInt_inj.mp (e.trans (by decide))))
  refine lv_tableOut (tgt := 540) hx hb dL_law_33 hout (by decide) ?_
  exact kk _ _ _ _ _ _ _ hR hT.up hz hW

