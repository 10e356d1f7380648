theorem dX8_ofParts_0 : decode cX8_ofParts 0 = .ok (.iconst 0, 1) := by decide +kernel
theorem dX8_ofParts_1 : decode cX8_ofParts 1 = .ok (.istore 6, 2) := by decide +kernel
theorem dX8_ofParts_3 : decode cX8_ofParts 3 = .ok (.iload 6, 2) := by decide +kernel
theorem dX8_ofParts_5 : decode cX8_ofParts 5 = .ok (.aload_n 0, 1) := by decide +kernel
theorem dX8_ofParts_6 : decode cX8_ofParts 6 = .ok (.getfield 34, 3) := by decide +kernel
theorem dX8_ofParts_9 : decode cX8_ofParts 9 = .ok (.iload_n 1, 1) := by decide +kernel
theorem dX8_ofParts_10 : decode cX8_ofParts 10 = .ok (.iaload, 1) := by decide +kernel
theorem dX8_ofParts_11 : decode cX8_ofParts 11 = .ok (.if_icmp .ge 85, 3) := by decide +kernel
theorem dX8_ofParts_96 : decode cX8_ofParts 96 = .ok (.aload_n 0, 1) := by decide +kernel
theorem dX8_ofParts_97 : decode cX8_ofParts 97 = .ok (.getfield 184, 3) := by decide +kernel
theorem dX8_ofParts_100 : decode cX8_ofParts 100 = .ok (.ifCond .eq 6, 3) := by decide +kernel
theorem dX8_ofParts_106 : decode cX8_ofParts 106 = .ok (.aload_n 0, 1) := by decide +kernel
theorem dX8_ofParts_107 : decode cX8_ofParts 107 = .ok (.invokevirtual 257, 3) := by decide +kernel
theorem dX8_ofParts_110 : decode cX8_ofParts 110 = .ok (.istore 6, 2) := by decide +kernel
theorem dX8_ofParts_112 : decode cX8_ofParts 112 = .ok (.aload_n 0, 1) := by decide +kernel
theorem dX8_ofParts_113 : decode cX8_ofParts 113 = .ok (.dup, 1) := by decide +kernel
theorem dX8_ofParts_114 : decode cX8_ofParts 114 = .ok (.getfield 254, 3) := by decide +kernel
theorem dX8_ofParts_117 : decode cX8_ofParts 117 = .ok (.aload_n 0, 1) := by decide +kernel
theorem dX8_ofParts_118 : decode cX8_ofParts 118 = .ok (.getfield 34, 3) := by decide +kernel
theorem dX8_ofParts_121 : decode cX8_ofParts 121 = .ok (.iload_n 1, 1) := by decide +kernel
theorem dX8_ofParts_122 : decode cX8_ofParts 122 = .ok (.iaload, 1) := by decide +kernel
theorem dX8_ofParts_123 : decode cX8_ofParts 123 = .ok (.isub, 1) := by decide +kernel
theorem dX8_ofParts_124 : decode cX8_ofParts 124 = .ok (.putfield 254, 3) := by decide +kernel
theorem dX8_ofParts_127 : decode cX8_ofParts 127 = .ok (.iconst 0, 1) := by decide +kernel
theorem dX8_ofParts_128 : decode cX8_ofParts 128 = .ok (.istore 7, 2) := by decide +kernel
theorem dX8_ofParts_130 : decode cX8_ofParts 130 = .ok (.iload 7, 2) := by decide +kernel
theorem dX8_ofParts_132 : decode cX8_ofParts 132 = .ok (.aload_n 0, 1) := by decide +kernel
theorem dX8_ofParts_133 : decode cX8_ofParts 133 = .ok (.getfield 34, 3) := by decide +kernel
theorem dX8_ofParts_136 : decode cX8_ofParts 136 = .ok (.iload_n 1, 1) := by decide +kernel
theorem dX8_ofParts_137 : decode cX8_ofParts 137 = .ok (.iaload, 1) := by decide +kernel
theorem dX8_ofParts_138 : decode cX8_ofParts 138 = .ok (.if_icmp .ge 46, 3) := by decide +kernel
theorem dX8_ofParts_184 : decode cX8_ofParts 184 = .ok (.iload 6, 2) := by decide +kernel
theorem dX8_ofParts_186 : decode cX8_ofParts 186 = .ok (.ireturn, 1) := by decide +kernel
theorem dX8_ofParts_141 : decode cX8_ofParts 141 = .ok (.iload 6, 2) := by decide +kernel
theorem dX8_ofParts_143 : decode cX8_ofParts 143 = .ok (.bipush (-9), 2) := by decide +kernel
theorem dX8_ofParts_145 : decode cX8_ofParts 145 = .ok (.if_icmp .eq 39, 3) := by decide +kernel
theorem dX8_ofParts_148 : decode cX8_ofParts 148 = .ok (.aload_n 0, 1) := by decide +kernel
theorem dX8_ofParts_149 : decode cX8_ofParts 149 = .ok (.iload 6, 2) := by decide +kernel
theorem dX8_ofParts_151 : decode cX8_ofParts 151 = .ok (.aload_n 0, 1) := by decide +kernel
theorem dX8_ofParts_152 : decode cX8_ofParts 152 = .ok (.getfield 40, 3) := by decide +kernel
theorem dX8_ofParts_155 : decode cX8_ofParts 155 = .ok (.bipush 6, 2) := by decide +kernel
theorem dX8_ofParts_157 : decode cX8_ofParts 157 = .ok (.iload_n 1, 1) := by decide +kernel
theorem dX8_ofParts_158 : decode cX8_ofParts 158 = .ok (.imul, 1) := by decide +kernel
theorem dX8_ofParts_159 : decode cX8_ofParts 159 = .ok (.iload 7, 2) := by decide +kernel
theorem dX8_ofParts_161 : decode cX8_ofParts 161 = .ok (.iadd, 1) := by decide +kernel
theorem dX8_ofParts_162 : decode cX8_ofParts 162 = .ok (.iaload, 1) := by decide +kernel
theorem dX8_ofParts_163 : decode cX8_ofParts 163 = .ok (.aload_n 0, 1) := by decide +kernel
theorem dX8_ofParts_164 : decode cX8_ofParts 164 = .ok (.getfield 77, 3) := by decide +kernel
theorem dX8_ofParts_167 : decode cX8_ofParts 167 = .ok (.aload_n 0, 1) := by decide +kernel
theorem dX8_ofParts_168 : decode cX8_ofParts 168 = .ok (.getfield 254, 3) := by decide +kernel
theorem dX8_ofParts_171 : decode cX8_ofParts 171 = .ok (.iload 7, 2) := by decide +kernel
theorem dX8_ofParts_173 : decode cX8_ofParts 173 = .ok (.iadd, 1) := by decide +kernel
theorem dX8_ofParts_174 : decode cX8_ofParts 174 = .ok (.iaload, 1) := by decide +kernel
theorem dX8_ofParts_175 : decode cX8_ofParts 175 = .ok (.invokevirtual 261, 3) := by decide +kernel
theorem dX8_ofParts_178 : decode cX8_ofParts 178 = .ok (.iinc 7 1, 3) := by decide +kernel
theorem dX8_ofParts_181 : decode cX8_ofParts 181 = .ok (.goto (-51), 3) := by decide +kernel
theorem dX8_ofParts_103 : decode cX8_ofParts 103 = .ok (.bipush (-9), 2) := by decide +kernel
theorem dX8_ofParts_105 : decode cX8_ofParts 105 = .ok (.ireturn, 1) := by decide +kernel
theorem dX8_ofParts_14 : decode cX8_ofParts 14 = .ok (.aload_n 0, 1) := by decide +kernel
theorem dX8_ofParts_15 : decode cX8_ofParts 15 = .ok (.getfield 184, 3) := by decide +kernel
theorem dX8_ofParts_18 : decode cX8_ofParts 18 = .ok (.ifCond .ne 78, 3) := by decide +kernel
theorem dX8_ofParts_21 : decode cX8_ofParts 21 = .ok (.iload 5, 2) := by decide +kernel
theorem dX8_ofParts_23 : decode cX8_ofParts 23 = .ok (.ifCond .eq 24, 3) := by decide +kernel
theorem dX8_ofParts_47 : decode cX8_ofParts 47 = .ok (.aload_n 0, 1) := by decide +kernel
theorem dX8_ofParts_48 : decode cX8_ofParts 48 = .ok (.aload_n 0, 1) := by decide +kernel
theorem dX8_ofParts_49 : decode cX8_ofParts 49 = .ok (.getfield 43, 3) := by decide +kernel
theorem dX8_ofParts_52 : decode cX8_ofParts 52 = .ok (.bipush 6, 2) := by decide +kernel
theorem dX8_ofParts_54 : decode cX8_ofParts 54 = .ok (.iload_n 1, 1) := by decide +kernel
theorem dX8_ofParts_55 : decode cX8_ofParts 55 = .ok (.imul, 1) := by decide +kernel
theorem dX8_ofParts_56 : decode cX8_ofParts 56 = .ok (.iload 6, 2) := by decide +kernel
theorem dX8_ofParts_58 : decode cX8_ofParts 58 = .ok (.iadd, 1) := by decide +kernel
theorem dX8_ofParts_59 : decode cX8_ofParts 59 = .ok (.iaload, 1) := by decide +kernel
theorem dX8_ofParts_60 : decode cX8_ofParts 60 = .ok (.iload_n 2, 1) := by decide +kernel
theorem dX8_ofParts_61 : decode cX8_ofParts 61 = .ok (.iload_n 3, 1) := by decide +kernel
theorem dX8_ofParts_62 : decode cX8_ofParts 62 = .ok (.iload 4, 2) := by decide +kernel
theorem dX8_ofParts_64 : decode cX8_ofParts 64 = .ok (.invokevirtual 235, 3) := by decide +kernel
theorem dX8_ofParts_67 : decode cX8_ofParts 67 = .ok (.istore 7, 2) := by decide +kernel
theorem dX8_ofParts_69 : decode cX8_ofParts 69 = .ok (.aload_n 0, 1) := by decide +kernel
theorem dX8_ofParts_70 : decode cX8_ofParts 70 = .ok (.getfield 77, 3) := by decide +kernel
theorem dX8_ofParts_73 : decode cX8_ofParts 73 = .ok (.aload_n 0, 1) := by decide +kernel
theorem dX8_ofParts_74 : decode cX8_ofParts 74 = .ok (.getfield 254, 3) := by decide +kernel
theorem dX8_ofParts_77 : decode cX8_ofParts 77 = .ok (.iload 7, 2) := by decide +kernel
theorem dX8_ofParts_79 : decode cX8_ofParts 79 = .ok (.iastore, 1) := by decide +kernel
theorem dX8_ofParts_80 : decode cX8_ofParts 80 = .ok (.aload_n 0, 1) := by decide +kernel
theorem dX8_ofParts_81 : decode cX8_ofParts 81 = .ok (.dup, 1) := by decide +kernel
theorem dX8_ofParts_82 : decode cX8_ofParts 82 = .ok (.getfield 254, 3) := by decide +kernel
theorem dX8_ofParts_85 : decode cX8_ofParts 85 = .ok (.iconst 1, 1) := by decide +kernel
theorem dX8_ofParts_86 : decode cX8_ofParts 86 = .ok (.iadd, 1) := by decide +kernel
theorem dX8_ofParts_87 : decode cX8_ofParts 87 = .ok (.putfield 254, 3) := by decide +kernel
theorem dX8_ofParts_90 : decode cX8_ofParts 90 = .ok (.iinc 6 1, 3) := by decide +kernel
theorem dX8_ofParts_93 : decode cX8_ofParts 93 = .ok (.goto (-90), 3) := by decide +kernel
set_option maxHeartbeats 4000000 in
set_option maxRecDepth 100000 in
/-- ofParts: a record lifted -/
theorem m_ofPartsL (l : Launch) (G : mG) (hDD : mDD G) (o : Nat → Int32) (F : Nat → Nat → Int32) (fu : Nat) (z : aS) (ix : Nat → Nat → Nat) (lf : Nat) (t : Nat) (way : Nat) (mm : Nat) (hm : Nat) (ih : mLiftAt fu) (hR : MR z ix o F) (hML : ML lf z F) (hlf : lf < 2 ^ 31) (hw2 : way < 2) (hmm : mm ≤ 100) (hh : o 39 = nI hm) (hb0 : bnd (cpL (fun s x => cp fu s x way mm mm) z (parts z t)).1 ≤ 200000) (hd : o 32 = nI (60 - fu)) (hfu : fu < 60) (hh2 : hm + 6 * (fu + 1) ≤ 8000) (h0 : sto z = 0) (ht : t < nT z) (h2 : srt z t = 2) (sz : Nat) : Met l yX8_ofParts (wU yX8_ofParts cX8_ofParts 8 (some .int)) { frames := 3 * fu + 7, cells := 0, slots := 0, locals := 82 * fu + 225 } (mPc G o F sz [.ref (mh G), .int (nI t), .int (nI way), .int (nI mm), .int (nI lf), .int 0]) (mQi G sz (fun r u => LQ [7, 8, 9, 10, 11, 12, 13, 14, 15, 16, 17, 18, 19, 20, 21, 24, 27, 32, 36, 37, 38, 39] (ML lf) z ix hm (fu + 1) o F (mkR (cpL (fun s x => cp fu s x way mm mm) z (parts z t)).1 (labs z t) (cpL (fun s x => cp fu s x way mm mm) z (parts z t)).2) r u ∧ u.1 32 = o 32)) 0 0 (mA G sz) := by
  refine Met.ofW (cc := cX8_ofParts) (maxL := 8) (ret := (some .int)) (by decide) rfl ?_
  intro p e s m args below meth c s₁ B hml hv
  obtain ⟨rfl, hsz, hP, hK⟩ := hv
  have hx := B.exec
  have hb := B.bytes
  have hr := B.returns
  have htu : ∀ w ∈ WU, w.before _ s = true := fun w h => atoms_spec (ws := (wU yX8_ofParts cX8_ofParts 8 (some .int))) B.pre w (List.mem_cons_of_mem _ h)
  have hown : s.vm.findClass RX8 = some m.cls := findClass_of_methodNamed B.named
  have hlocks := B.notSynchronized
  subst hsz
  have hS : va_S (mA G s.heap.size) s.heap s.heap [] := va_S.rf
  have hl := lv_entry ([.ref (mh G), .int (nI t), .int (nI way), .int (nI mm), .int (nI lf), .int 0]) (n := 8) (Nat.le_of_ble_eq_true rfl)
  rw [lg_entry_eq]
  generalize (lg_sl ([.ref (mh G), .int (nI t), .int (nI way), .int (nI mm), .int (nI lf), .int 0]) ++ List.replicate (8 - (lg_sl ([.ref (mh G), .int (nI t), .int (nI way), .int (nI mm), .int (nI lf), .int 0])).length) Slot.unset).toArray = ls at hl ⊢
  have hl : lv_has ls 8 [(0, .ref (mh G)), (1, .int (nI t)), (2, .int (nI way)), (3, .int (nI mm)), (4, .int (nI lf)), (5, .int 0)] := hl
  obtain ⟨H, hHe⟩ : ∃ H : Heap, H = s.heap := ⟨_, rfl⟩
  rw [← hHe] at hP
  have hS : va_S (mA G s.heap.size) s.heap H [] := by rw [hHe]; exact va_S.rf
  refine W.heq hHe ?_
  obtain ⟨b1, b2, b3, b4, b5, b6, b7, b8⟩ := hR.2.1
  obtain ⟨r1, r2, r3, r4⟩ := hR.2.2.2.2.1 t ht h2
  refine lv_iconst (v := 0) hx hb dX8_ofParts_0 (by decide) ?_
  refine lv_istore (lv' := [(6, .int 0), (0, .ref (mh G)), (1, .int (nI t)), (2, .int (nI way)), (3, .int (nI mm)), (4, .int (nI lf)), (5, .int 0)]) hx hb dX8_ofParts_1 hl (by decide) rfl (fun ls hl => ?_)
  refine w_loop (fun j H locs k sl g => ∃ (i : Nat) (zi : aS) (ix1 : Nat → Nat → Nat) (acc : List Nat) (o1 : Nat → Int32) (F1 : Nat → Nat → Int32) (ls : Array Slot), i + j = (parts z t).length ∧ Cl (fun s x => cp fu s x way mm mm) z (parts z t) zi acc i ∧ MR zi ix1 o1 F1 ∧ Px z ix ix1 ∧ Lx z zi ∧ ML lf zi F1 ∧ o1 32 = o 32 ∧ Kq [7, 8, 9, 10, 11, 12, 13, 14, 15, 16, 17, 18, 19, 20, 21, 24, 27, 32, 36, 37, 38, 39] o F (o1, F1) ∧ (sto zi = 0 → o1 39 = nI (hm + i) ∧ ∀ q, q < i → F1 38 (hm + q) = nI (acc.getD q 0) ∧ acc.getD q 0 < nT zi) ∧ (∃ h9, o1 39 = nI h9 ∧ hm ≤ h9 ∧ h9 ≤ hm + 6 * fu + i) ∧ (∀ q, q < hm → F1 38 q = F 38 q) ∧ k = 0 ∧ sl = 0 ∧ mP G o1 F1 H ∧ va_S (mA G s.heap.size) s.heap H locs ∧ lv_has ls 8 [(6, .int (nI i)), (0, .ref (mh G)), (1, .int (nI t)), (2, .int (nI way)), (3, .int (nI mm)), (4, .int (nI lf)), (5, .int 0)] ∧ g = F0 m 3 ls []) ?_ ?_ ((parts z t).length) _ _ _ _ _ ⟨0, z, ix, [], o, F, ls, by omega, Cl.start, hR, Px.rf, Lx.rf, hML, rfl, Kq.rf, (fun _ => ⟨hh, fun q hq => absurd hq (by omega)⟩), ⟨hm, hh, Nat.le_refl _, by omega⟩, (fun q hq => rfl), rfl, rfl, hP, hS, lv_sub hl [0, 1, 2, 3, 4, 5, 6] rfl, rfl⟩
  · intro H locs k sl g hI
    obtain ⟨i, zi, ix1, acc, o1, F1, ls, hp0, hp1, hp2, hp3, hp4, hp5, hp6, hp7, hp8, hp9, hp10, rfl, rfl, hP, hS, hl, rfl⟩ := hI
    have x1 := hp4.2.2.1 t ht
    have x1n := hp4.1
    have q0 := hp2.2.2.2.2.1 t (Nat.lt_of_lt_of_le ht hp4.1) (x1.1.trans h2)
    rw [x1.2.2.2.2.1, x1.2.2.2.2.2] at q0
    obtain ⟨q1, q2, q3, q4⟩ := q0
    obtain ⟨n1, n2, n3, n4, n5, n6, n7, n8⟩ := hp2.2.1
    refine lv_iload hx hb dX8_ofParts_3 (lv_at hl 0 rfl) ?_
    refine lv_aload_n hx hb dX8_ofParts_5 rfl (lv_at hl 1 rfl) ?_
    refine m_get (v := .ref (md G 10)) hx hb htu wu_in hown hK hP 10 (by decide) (htu _ U_80) rfl rfl dX8_ofParts_6 ?_
    refine lv_iload_n hx hb dX8_ofParts_9 rfl (lv_at hl 2 rfl) ?_
    refine m_ald (j := t) (v := nI ((parts z t).length)) hx hb hK hP 9 10 rfl (by omega) (by decide) q1 dX8_ofParts_10 ?_
    refine lv_icmp_ge (tgt := 96) hx hb dX8_ofParts_11 (by decide) (fun c_1 => ?_) (fun c_1 => absurd (nI_le (by omega) (by omega)) c_1)
    refine lv_aload_n hx hb dX8_ofParts_96 rfl (lv_at hl 1 rfl) ?_
    refine m_get (v := .int (sc (sto zi))) hx hb htu wu_in hown hK hP 27 (by decide) (htu _ U_45) rfl (m_v hp2.1.2.2.2.2.1) dX8_ofParts_97 ?_
    refine lv_if_eq (tgt := 106) hx hb dX8_ofParts_100 (by decide) (fun c_2 => ?_) (fun c_2 => ?_)
    · skip
      have g0 : sto zi = 0 := sc_0.mp c_2
      obtain ⟨k1, k2⟩ := hp8 g0
      have ni : i = (parts z t).length := by omega
      subst ni
      obtain ⟨d1, d2⟩ := hp1.done (Nat.le_refl _)
      refine lv_aload_n hx hb dX8_ofParts_106 rfl (lv_at hl 1 rfl) ?_
      refine m_ci (m_runV (As := []) (rest := []) ⟨hx, hb, hml, hown, htu⟩ (m_row l G hDD o1 F1 zi ix1 hp2 H.size) (cwV 0 htu gU_X8_row rfl rfl rfl (by decide +kernel) ⟨show 2 + 1 ≤ 3 * fu + 7 by omega, show 8 + (2 + 11) + 44 ≤ 82 * fu + 225 by omega⟩) hP hK rfl hl.1 rfl (lv_room (Nat.le_of_ble_eq_true rfl)) dX8_ofParts_107) hS (fun r_3 o_4 F_5 H locs hw_6 hP hS => ?_)
      try dsimp only at hw_6
      rcases hw_6 with ⟨g1, -⟩ | ⟨g1, g2, g3, g4, g5⟩ | ⟨g1, g2, g3, g4⟩
      · exact absurd g0 g1
      · skip
        subst g3
        refine lv_istore (lv' := [(6, .int ((-9))), (0, .ref (mh G)), (1, .int (nI t)), (2, .int (nI way)), (3, .int (nI mm)), (4, .int (nI lf)), (5, .int 0)]) hx hb dX8_ofParts_110 hl (by decide) rfl (fun ls hl => ?_)
        refine lv_aload_n hx hb dX8_ofParts_112 rfl (lv_at hl 1 rfl) ?_
        refine lv_dup hx hb dX8_ofParts_113 rfl ?_
        refine m_get (v := .int (nI (hm + (parts z t).length))) hx hb htu wu_in hown hK hP 39 (by decide) (htu _ U_57) rfl (m_v ((g5 39 (by decide)).1.trans k1)) dX8_ofParts_114 ?_
        refine lv_aload_n hx hb dX8_ofParts_117 rfl (lv_at hl 1 rfl) ?_
        refine m_get (v := .ref (md G 10)) hx hb htu wu_in hown hK hP 10 (by decide) (htu _ U_80) rfl rfl dX8_ofParts_118 ?_
        refine lv_iload_n hx hb dX8_ofParts_121 rfl (lv_at hl 2 rfl) ?_
        refine m_ald (j := t) (v := nI ((parts z t).length)) hx hb hK hP 9 10 rfl (by omega) (by decide) ((congrFun (g5 10 (by decide)).2 t).trans q1) dX8_ofParts_122 ?_
        refine lv_isub hx hb dX8_ofParts_123 ?_
        refine m_top (y := nI hm) ((pk_sub (by omega)).trans (congrArg nI (by omega))) ?_
        refine m_put (ty := .int) (x := nI hm) hx hb htu wu_in hown hK hP hDD hS 39 (by decide) (htu _ U_57) rfl rfl (by decide +kernel) rfl rfl (mO_s39 _ _ _) dX8_ofParts_124 (fun H locs hP hS => ?_)
        refine lv_iconst (v := 0) hx hb dX8_ofParts_127 (by decide) ?_
        refine lv_istore (lv' := [(7, .int 0), (6, .int ((-9))), (0, .ref (mh G)), (1, .int (nI t)), (2, .int (nI way)), (3, .int (nI mm)), (4, .int (nI lf)), (5, .int 0)]) hx hb dX8_ofParts_128 hl (by decide) rfl (fun ls hl => ?_)
        refine lv_iload hx hb dX8_ofParts_130 (lv_at hl 0 rfl) ?_
        refine lv_aload_n hx hb dX8_ofParts_132 rfl (lv_at hl 2 rfl) ?_
        refine m_get (v := .ref (md G 10)) hx hb htu wu_in hown hK hP 10 (by decide) (htu _ U_80) rfl rfl dX8_ofParts_133 ?_
        refine lv_iload_n hx hb dX8_ofParts_136 rfl (lv_at hl 3 rfl) ?_
        refine m_ald (j := t) (v := nI ((parts z t).length)) hx hb hK hP 9 10 rfl (by omega) (by decide) ((congrFun (g5 10 (by decide)).2 t).trans q1) dX8_ofParts_137 ?_
        refine lv_icmp_ge (tgt := 184) hx hb dX8_ofParts_138 (by decide) (fun c_7 => ?_) (fun c_7 => ?_)
        · skip
          have nc_7 : (parts z t).length ≤ 0 := (nI_leI (a := (parts z t).length) (b := 0) (by omega) (by omega)).mp c_7
          refine lv_iload hx hb dX8_ofParts_184 (lv_at hl 1 rfl) ?_
          exact m_iret (v := (-9)) hx hb hr hK hP hS (by rw [d1, d2, show mkR zi (labs z t) acc = (stops zi 1 (askn zi), 0) from (if_neg (not_not_intro g1)).trans (if_pos g2)]; exact ⟨⟨⟨ix1, g4, hp3⟩, hp5.to (me_stops zi 1 (askn zi)) (x_stops _ _ _).1 (g5 36 (by decide)).2 (g5 37 (by decide)).2, fun h => absurd h (stops_sto hp2), fun h => absurd h0 h, ⟨fun h => absurd h (stops_sto hp2), ⟨hm, rfl, Nat.le_refl _, by omega⟩, fun q hq => (congrFun (g5 38 (by decide)).2 q).trans (hp10 q hq)⟩, Kq.o (Kq.tr hp7 (g5.mono (by decide))) (by decide)⟩, ((g5 32 (by decide)).1).trans hp6⟩) dX8_ofParts_186 hlocks
        · skip
          have nc_7 : ¬ (parts z t).length ≤ 0 := fun h9 => c_7 ((nI_leI (a := (parts z t).length) (b := 0) (by omega) (by omega)).mpr h9)
          refine lv_iload hx hb dX8_ofParts_141 (lv_at hl 1 rfl) ?_
          refine lv_bipush (v := (-9)) hx hb dX8_ofParts_143 (by decide) ?_
          refine lv_icmp_eq (tgt := 184) hx hb dX8_ofParts_145 (by decide) (fun c_8 => ?_) (fun c_8 => absurd (by decide) c_8)
          refine lv_iload hx hb dX8_ofParts_184 (lv_at hl 1 rfl) ?_
          exact m_iret (v := (-9)) hx hb hr hK hP hS (by rw [d1, d2, show mkR zi (labs z t) acc = (stops zi 1 (askn zi), 0) from (if_neg (not_not_intro g1)).trans (if_pos g2)]; exact ⟨⟨⟨ix1, g4, hp3⟩, hp5.to (me_stops zi 1 (askn zi)) (x_stops _ _ _).1 (g5 36 (by decide)).2 (g5 37 (by decide)).2, fun h => absurd h (stops_sto hp2), fun h => absurd h0 h, ⟨fun h => absurd h (stops_sto hp2), ⟨hm, rfl, Nat.le_refl _, by omega⟩, fun q hq => (congrFun (g5 38 (by decide)).2 q).trans (hp10 q hq)⟩, Kq.o (Kq.tr hp7 (g5.mono (by decide))) (by decide)⟩, ((g5 32 (by decide)).1).trans hp6⟩) dX8_ofParts_186 hlocks
      · skip
        subst g3
        obtain ⟨rfl, rfl⟩ := Prod.mk.inj g4
        refine lv_istore (lv' := [(6, .int (nI (nT zi))), (0, .ref (mh G)), (1, .int (nI t)), (2, .int (nI way)), (3, .int (nI mm)), (4, .int (nI lf)), (5, .int 0)]) hx hb dX8_ofParts_110 hl (by decide) rfl (fun ls hl => ?_)
        refine lv_aload_n hx hb dX8_ofParts_112 rfl (lv_at hl 1 rfl) ?_
        refine lv_dup hx hb dX8_ofParts_113 rfl ?_
        refine m_get (v := .int (nI (hm + (parts z t).length))) hx hb htu wu_in hown hK hP 39 (by decide) (htu _ U_57) rfl (m_v k1) dX8_ofParts_114 ?_
        refine lv_aload_n hx hb dX8_ofParts_117 rfl (lv_at hl 1 rfl) ?_
        refine m_get (v := .ref (md G 10)) hx hb htu wu_in hown hK hP 10 (by decide) (htu _ U_80) rfl rfl dX8_ofParts_118 ?_
        refine lv_iload_n hx hb dX8_ofParts_121 rfl (lv_at hl 2 rfl) ?_
        refine m_ald (j := t) (v := nI ((parts z t).length)) hx hb hK hP 9 10 rfl (by omega) (by decide) (show fput (fput (fput F1 8 (nT zi) (nI 2)) 9 (nT zi) (nI 0)) 10 (nT zi) (nI 0) 10 t = _ from (fput_j (by omega)).trans q1) dX8_ofParts_122 ?_
        refine lv_isub hx hb dX8_ofParts_123 ?_
        refine m_top (y := nI hm) ((pk_sub (by omega)).trans (congrArg nI (by omega))) ?_
        refine m_put (ty := .int) (x := nI hm) hx hb htu wu_in hown hK hP hDD hS 39 (by decide) (htu _ U_57) rfl rfl (by decide +kernel) rfl rfl (mO_s39 _ _ _) dX8_ofParts_124 (fun H locs hP hS => ?_)
        refine lv_iconst (v := 0) hx hb dX8_ofParts_127 (by decide) ?_
        refine lv_istore (lv' := [(7, .int 0), (6, .int (nI (nT zi))), (0, .ref (mh G)), (1, .int (nI t)), (2, .int (nI way)), (3, .int (nI mm)), (4, .int (nI lf)), (5, .int 0)]) hx hb dX8_ofParts_128 hl (by decide) rfl (fun ls hl => ?_)
        refine w_loop (fun j H locs k sl g => ∃ (i2 : Nat) (o2 : Nat → Int32) (F2 : Nat → Nat → Int32) (ls : Array Slot), i2 + j = (parts z t).length ∧ Rp zi (upd o1 39 (nI hm)) F1 ((labs z t).take i2) (acc.take i2) o2 F2 ∧ k = 0 ∧ sl = 0 ∧ mP G o2 F2 H ∧ va_S (mA G s.heap.size) s.heap H locs ∧ lv_has ls 8 [(6, .int (nI (nT zi))), (7, .int (nI i2)), (0, .ref (mh G)), (1, .int (nI t)), (2, .int (nI way)), (3, .int (nI mm)), (4, .int (nI lf)), (5, .int 0)] ∧ g = F0 m 130 ls []) ?_ ?_ ((parts z t).length) _ _ _ _ _ ⟨0, upd (upd o1 7 (nI (nT zi + 1))) 39 (nI hm), fput (fput (fput F1 8 (nT zi) (nI 2)) 9 (nT zi) (nI 0)) 10 (nT zi) (nI 0), ls, by omega, (by have := Rp.start (s := zi) (o0 := upd o1 39 (nI hm)) (F0 := F1); rw [upd_c (show (39 : Nat) ≠ 7 by decide)] at this; exact this), rfl, rfl, hP, hS, lv_sub hl [1, 0, 2, 3, 4, 5, 6, 7] rfl, rfl⟩
        · intro H locs k sl g hI
          obtain ⟨i2, o2, F2, ls, hq0, hq1, rfl, rfl, hP, hS, hl, rfl⟩ := hI
          have p39 : o2 39 = nI hm := by rw [hq1.1.1]; rfl
          have p10 : F2 10 t = nI (parts z t).length := by rw [hq1.1.2.2.2.1, upd_n (by omega)]; exact q1
          refine lv_iload hx hb dX8_ofParts_130 (lv_at hl 1 rfl) ?_
          refine lv_aload_n hx hb dX8_ofParts_132 rfl (lv_at hl 2 rfl) ?_
          refine m_get (v := .ref (md G 10)) hx hb htu wu_in hown hK hP 10 (by decide) (htu _ U_80) rfl rfl dX8_ofParts_133 ?_
          refine lv_iload_n hx hb dX8_ofParts_136 rfl (lv_at hl 3 rfl) ?_
          refine m_ald (j := t) (v := nI ((parts z t).length)) hx hb hK hP 9 10 rfl (by omega) (by decide) p10 dX8_ofParts_137 ?_
          refine lv_icmp_ge (tgt := 184) hx hb dX8_ofParts_138 (by decide) (fun c_9 => ?_) (fun c_9 => absurd (nI_le (by omega) (by omega)) c_9)
          refine lv_iload hx hb dX8_ofParts_184 (lv_at hl 0 rfl) ?_
          have ni2 : i2 = (parts z t).length := by omega
          subst ni2
          have aL : acc.take (parts z t).length = acc := List.take_of_length_le (by rw [hp1.2.2]; exact Nat.le_refl _)
          have lL : (labs z t).take (parts z t).length = labs z t := List.take_of_length_le (by rw [r2]; exact Nat.le_refl _)
          rw [aL, lL] at hq1
          obtain ⟨e1, e2, e3, e4, e5⟩ := Rp.done (ix := ix1) hq1 hp2 g0 g2 (by rw [hp1.2.2]; exact r3)
          exact m_iret (v := nI (nT zi)) hx hb hr hK hP hS (by rw [d1, d2]; exact ⟨⟨⟨ix1, e1, hp3⟩, hp5.to (me_mkR _ _ _) (x_mkR _ _ _).1 (e5 36 (by decide)).2 (e5 37 (by decide)).2, fun _ => ⟨by rw [e2], by rw [e2, e4]; omega⟩, fun h => absurd h0 h, ⟨fun _ => p39.trans hh.symm, ⟨hm, p39, Nat.le_refl _, by omega⟩, fun q hq => (congrFun (e5 38 (by decide)).2 q).trans (hp10 q hq)⟩, Kq.tr (Kq.o hp7 (by decide)) (e5.mono (by decide))⟩, ((e5 32 (by decide)).1).trans hp6⟩) dX8_ofParts_186 hlocks
        · intro j ih9 H locs k sl g hI
          obtain ⟨i2, o2, F2, ls, hq0, hq1, rfl, rfl, hP, hS, hl, rfl⟩ := hI
          have p39 : o2 39 = nI hm := by rw [hq1.1.1]; rfl
          have p10 : F2 10 t = nI (parts z t).length := by rw [hq1.1.2.2.2.1, upd_n (by omega)]; exact q1
          have ni3 : i2 < (parts z t).length := by omega
          have ni4 : i2 < acc.length := by rw [hp1.2.2]; omega
          have ni5 : i2 < (labs z t).length := by omega
          obtain ⟨k3, k4⟩ := k2 i2 ni3
          have tk : (acc.take i2).length = i2 := by rw [List.length_take]; omega
          have p12 : F2 12 (6 * t + i2) = nI ((labs z t).getD i2 0) := by rw [(hq1.2.1 _ (by omega)).1]; exact (q4 i2 ni3).1
          have p38 : F2 38 (hm + i2) = nI (acc.getD i2 0) := by rw [hq1.2.2.2 38 (by decide)]; exact k3
          have p10b : F2 10 (nT zi) = nI i2 := by rw [hq1.1.2.2.2.1, upd_s, tk]
          have p9 : F2 9 (acc.getD i2 0) = nI (lev zi (acc.getD i2 0)) := by rw [hq1.1.2.2.1, upd_n (by omega)]; exact (hp2.2.2.1 _ k4).2.1
          have p9b : F2 9 (nT zi) = nI (lmax zi (acc.take i2)) := by rw [hq1.1.2.2.1, upd_s]
          have pl : lev zi (acc.getD i2 0) ≤ 100 := (hp2.2.2.1 _ k4).2.2.2
          have pm : lmax zi (acc.take i2) ≤ 100 := lmax_le (fun x hx => (hp2.2.2.1 x (by obtain ⟨q, hq, e⟩ := List.getElem_of_mem (List.mem_of_mem_take hx); have hq2 : q < (parts z t).length := (by rw [← hp1.2.2]; exact hq); have := (k2 q hq2).2; rw [gtD hq, e] at this; exact this)).2.2.2)
          refine lv_iload hx hb dX8_ofParts_130 (lv_at hl 1 rfl) ?_
          refine lv_aload_n hx hb dX8_ofParts_132 rfl (lv_at hl 2 rfl) ?_
          refine m_get (v := .ref (md G 10)) hx hb htu wu_in hown hK hP 10 (by decide) (htu _ U_80) rfl rfl dX8_ofParts_133 ?_
          refine lv_iload_n hx hb dX8_ofParts_136 rfl (lv_at hl 3 rfl) ?_
          refine m_ald (j := t) (v := nI ((parts z t).length)) hx hb hK hP 9 10 rfl (by omega) (by decide) p10 dX8_ofParts_137 ?_
          refine lv_icmp_ge (tgt := 184) hx hb dX8_ofParts_138 (by decide) (fun c_10 => absurd c_10 (nI_ge ni3 (by omega))) (fun c_10 => ?_)
          refine lv_iload hx hb dX8_ofParts_141 (lv_at hl 0 rfl) ?_
          refine lv_bipush (v := (-9)) hx hb dX8_ofParts_143 (by decide) ?_
          refine lv_icmp_eq (tgt := 184) hx hb dX8_ofParts_145 (by decide) (fun c_11 => absurd c_11 (nI_neg (by decide) (by omega))) (fun c_11 => ?_)
          refine lv_aload_n hx hb dX8_ofParts_148 rfl (lv_at hl 2 rfl) ?_
          refine lv_iload hx hb dX8_ofParts_149 (lv_at hl 0 rfl) ?_
          refine lv_aload_n hx hb dX8_ofParts_151 rfl (lv_at hl 2 rfl) ?_
          refine m_get (v := .ref (md G 12)) hx hb htu wu_in hown hK hP 12 (by decide) (htu _ U_89) rfl rfl dX8_ofParts_152 ?_
          refine lv_bipush (v := 6) hx hb dX8_ofParts_155 (by decide) ?_
          refine lv_iload_n hx hb dX8_ofParts_157 rfl (lv_at hl 3 rfl) ?_
          refine lv_imul hx hb dX8_ofParts_158 ?_
          refine m_top (y := nI (6 * t)) (pk_mul 6 t) ?_
          refine lv_iload hx hb dX8_ofParts_159 (lv_at hl 1 rfl) ?_
          refine lv_iadd hx hb dX8_ofParts_161 ?_
          refine m_top (y := nI (6 * t + i2)) (nI_add (6 * t) i2) ?_
          refine m_ald (j := 6 * t + i2) (v := nI ((labs z t).getD i2 0)) hx hb hK hP 11 12 rfl (by omega) (by decide) p12 dX8_ofParts_162 ?_
          refine lv_aload_n hx hb dX8_ofParts_163 rfl (lv_at hl 2 rfl) ?_
          refine m_get (v := .ref (md G 38)) hx hb htu wu_in hown hK hP 38 (by decide) (htu _ U_75) rfl rfl dX8_ofParts_164 ?_
          refine lv_aload_n hx hb dX8_ofParts_167 rfl (lv_at hl 2 rfl) ?_
          refine m_get (v := .int (nI hm)) hx hb htu wu_in hown hK hP 39 (by decide) (htu _ U_57) rfl (m_v p39) dX8_ofParts_168 ?_
          refine lv_iload hx hb dX8_ofParts_171 (lv_at hl 1 rfl) ?_
          refine lv_iadd hx hb dX8_ofParts_173 ?_
          refine m_top (y := nI (hm + i2)) (nI_add hm i2) ?_
          refine m_ald (j := hm + i2) (v := nI (acc.getD i2 0)) hx hb hK hP 23 38 rfl (by omega) (by decide) p38 dX8_ofParts_174 ?_
          refine m_cv (m_runV (As := [.int (nI (nT zi)), .int (nI ((labs z t).getD i2 0)), .int (nI (acc.getD i2 0))]) (rest := []) ⟨hx, hb, hml, hown, htu⟩ (m_addTo l G hDD o2 F2 (nT zi) i2 (acc.getD i2 0) (nI ((labs z t).getD i2 0)) (lmax zi (acc.take i2)) (lev zi (acc.getD i2 0)) ((by omega)) ((by omega)) ((by omega)) p10b p9 p9b pm pl H.size) (cwV 3 htu gU_X8_addTo rfl rfl rfl (by decide +kernel) ⟨show 0 + 1 ≤ 3 * fu + 7 by omega, show 8 + (4 + 11) + 0 ≤ 82 * fu + 225 by omega⟩) hP hK rfl hl.1 rfl (lv_room (Nat.le_of_ble_eq_true rfl)) dX8_ofParts_175) hS (fun o_13 F_14 H locs hw_15 hP hS => ?_)
          try dsimp only at hw_15
          obtain ⟨h91, h92⟩ := Prod.mk.inj hw_15
          have h91 := h91.symm
          have h92 := h92.symm
          subst h91
          subst h92
          refine lv_iinc (v := nI (i2 + 1)) (lv' := [(7, .int (nI (i2 + 1))), (6, .int (nI (nT zi))), (0, .ref (mh G)), (1, .int (nI t)), (2, .int (nI way)), (3, .int (nI mm)), (4, .int (nI lf)), (5, .int 0)]) hx hb dX8_ofParts_178 hl (k := 1) rfl (nI_1 i2) (by decide) rfl (fun ls hl => ?_)
          refine lv_goto (tgt := 130) hx hb dX8_ofParts_181 (by decide) ?_
          exact ih9 _ _ _ _ _ ⟨i2 + 1, o2, fput (fput (fput (fput F2 12 (6 * nT zi + i2) (nI ((labs z t).getD i2 0))) 13 (6 * nT zi + i2) (nI (acc.getD i2 0))) 10 (nT zi) (nI (i2 + 1))) 9 (nT zi) (nI (max (lmax zi (acc.take i2)) (lev zi (acc.getD i2 0)))), ls, by omega, (by have := hq1.add (la := (labs z t).getD i2 0) (x := acc.getD i2 0) (k := i2) (lv := max (lmax zi (acc.take i2)) (lev zi (acc.getD i2 0))) k4 (q4 i2 ni3).2.2.2 tk.symm rfl; rw [← tkS ni4, ← tkS ni5] at this; exact this), rfl, rfl, hP, hS, lv_sub hl [1, 0, 2, 3, 4, 5, 6, 7] rfl, rfl⟩
    · skip
      refine lv_bipush (v := (-9)) hx hb dX8_ofParts_103 (by decide) ?_
      exact m_iret (v := (-9)) hx hb hr hK hP hS (by rw [show (mkR (cpL (fun s x => cp fu s x way mm mm) z (parts z t)).1 (labs z t) (cpL (fun s x => cp fu s x way mm mm) z (parts z t)).2) = ((cpL (fun s x => cp fu s x way mm mm) z (parts z t)).1, 0) from if_pos (by rw [hp1.stop (fun h => c_2 (sc_0.mpr h))]; exact (fun h => c_2 (sc_0.mpr h))), hp1.stop (fun h => c_2 (sc_0.mpr h))]; exact ⟨⟨⟨ix1, hp2, hp3⟩, hp5, fun h => absurd h (fun h => c_2 (sc_0.mpr h)), fun h => absurd h0 h, ⟨fun h => absurd h (fun h => c_2 (sc_0.mpr h)), by obtain ⟨h9, g1, g2, g3⟩ := hp9; exact ⟨h9, g1, g2, by omega⟩, hp10⟩, hp7⟩, hp6⟩) dX8_ofParts_105 hlocks
  · intro j ih9 H locs k sl g hI
    obtain ⟨i, zi, ix1, acc, o1, F1, ls, hp0, hp1, hp2, hp3, hp4, hp5, hp6, hp7, hp8, hp9, hp10, rfl, rfl, hP, hS, hl, rfl⟩ := hI
    have x1 := hp4.2.2.1 t ht
    have x1n := hp4.1
    have q0 := hp2.2.2.2.2.1 t (Nat.lt_of_lt_of_le ht hp4.1) (x1.1.trans h2)
    rw [x1.2.2.2.2.1, x1.2.2.2.2.2] at q0
    obtain ⟨q1, q2, q3, q4⟩ := q0
    obtain ⟨n1, n2, n3, n4, n5, n6, n7, n8⟩ := hp2.2.1
    have ni : i < (parts z t).length := by omega
    refine lv_iload hx hb dX8_ofParts_3 (lv_at hl 0 rfl) ?_
    refine lv_aload_n hx hb dX8_ofParts_5 rfl (lv_at hl 1 rfl) ?_
    refine m_get (v := .ref (md G 10)) hx hb htu wu_in hown hK hP 10 (by decide) (htu _ U_80) rfl rfl dX8_ofParts_6 ?_
    refine lv_iload_n hx hb dX8_ofParts_9 rfl (lv_at hl 2 rfl) ?_
    refine m_ald (j := t) (v := nI ((parts z t).length)) hx hb hK hP 9 10 rfl (by omega) (by decide) q1 dX8_ofParts_10 ?_
    refine lv_icmp_ge (tgt := 96) hx hb dX8_ofParts_11 (by decide) (fun c_16 => absurd c_16 (nI_ge ni (by omega))) (fun c_16 => ?_)
    refine lv_aload_n hx hb dX8_ofParts_14 rfl (lv_at hl 1 rfl) ?_
    refine m_get (v := .int (sc (sto zi))) hx hb htu wu_in hown hK hP 27 (by decide) (htu _ U_45) rfl (m_v hp2.1.2.2.2.2.1) dX8_ofParts_15 ?_
    refine lv_if_ne (tgt := 96) hx hb dX8_ofParts_18 (by decide) (fun c_17 => ?_) (fun c_17 => ?_)
    · skip
      refine lv_aload_n hx hb dX8_ofParts_96 rfl (lv_at hl 1 rfl) ?_
      refine m_get (v := .int (sc (sto zi))) hx hb htu wu_in hown hK hP 27 (by decide) (htu _ U_45) rfl (m_v hp2.1.2.2.2.2.1) dX8_ofParts_97 ?_
      refine lv_if_eq (tgt := 106) hx hb dX8_ofParts_100 (by decide) (fun c_18 => absurd c_18 c_17) (fun c_18 => ?_)
      refine lv_bipush (v := (-9)) hx hb dX8_ofParts_103 (by decide) ?_
      exact m_iret (v := (-9)) hx hb hr hK hP hS (by rw [show (mkR (cpL (fun s x => cp fu s x way mm mm) z (parts z t)).1 (labs z t) (cpL (fun s x => cp fu s x way mm mm) z (parts z t)).2) = ((cpL (fun s x => cp fu s x way mm mm) z (parts z t)).1, 0) from if_pos (by rw [hp1.stop (fun h => c_17 (sc_0.mpr h))]; exact (fun h => c_17 (sc_0.mpr h))), hp1.stop (fun h => c_17 (sc_0.mpr h))]; exact ⟨⟨⟨ix1, hp2, hp3⟩, hp5, fun h => absurd h (fun h => c_17 (sc_0.mpr h)), fun h => absurd h0 h, ⟨fun h => absurd h (fun h => c_17 (sc_0.mpr h)), by obtain ⟨h9, g1, g2, g3⟩ := hp9; exact ⟨h9, g1, g2, by omega⟩, hp10⟩, hp7⟩, hp6⟩) dX8_ofParts_105 hlocks
    · skip
      have g0 : sto zi = 0 := sc_0.mp c_17
      obtain ⟨k1, k2⟩ := hp8 g0
      obtain ⟨p12, p13, p14, p15⟩ := q4 i ni
      have hst := hp1.step ni g0
      have hbi : bnd (cp fu zi ((parts z t).getD i 0) way mm mm).1 ≤ 200000 := by refine Nat.le_trans ?_ hb0; rw [hst.1]; exact b_cpL (fun s x => b_cp fu s x way mm mm) _ _
      refine lv_iload hx hb dX8_ofParts_21 (lv_at hl 6 rfl) ?_
      refine lv_if_eq (tgt := 47) hx hb dX8_ofParts_23 (by decide) (fun c_19 => ?_) (fun c_19 => absurd (by decide) c_19)
      refine lv_aload_n hx hb dX8_ofParts_47 rfl (lv_at hl 1 rfl) ?_
      refine lv_aload_n hx hb dX8_ofParts_48 rfl (lv_at hl 1 rfl) ?_
      refine m_get (v := .ref (md G 13)) hx hb htu wu_in hown hK hP 13 (by decide) (htu _ U_90) rfl rfl dX8_ofParts_49 ?_
      refine lv_bipush (v := 6) hx hb dX8_ofParts_52 (by decide) ?_
      refine lv_iload_n hx hb dX8_ofParts_54 rfl (lv_at hl 2 rfl) ?_
      refine lv_imul hx hb dX8_ofParts_55 ?_
      refine m_top (y := nI (6 * t)) (pk_mul 6 t) ?_
      refine lv_iload hx hb dX8_ofParts_56 (lv_at hl 0 rfl) ?_
      refine lv_iadd hx hb dX8_ofParts_58 ?_
      refine m_top (y := nI (6 * t + i)) (nI_add (6 * t) i) ?_
      refine m_ald (j := 6 * t + i) (v := nI ((parts z t).getD i 0)) hx hb hK hP 12 13 rfl (by omega) (by decide) p13 dX8_ofParts_59 ?_
      refine lv_iload_n hx hb dX8_ofParts_60 rfl (lv_at hl 3 rfl) ?_
      refine lv_iload_n hx hb dX8_ofParts_61 rfl (lv_at hl 4 rfl) ?_
      refine lv_iload hx hb dX8_ofParts_62 (lv_at hl 5 rfl) ?_
      refine m_ci (m_runV (As := [.int (nI ((parts z t).getD i 0)), .int (nI way), .int (nI mm), .int (nI lf)]) (rest := []) ⟨hx, hb, hml, hown, htu⟩ (ih l G hDD o1 F1 zi ix1 lf ((parts z t).getD i 0) way mm (hm + i) (nI ((parts z t).getD i 0)) hp2 hp5 hlf hw2 hmm k1 hbi ((hp6.trans hd)) ((by omega)) ((fun _ => by omega)) ((by omega)) ((fun _ => ⟨rfl, p14⟩)) H.size) (cwV 4 htu gU_X8_lift rfl rfl rfl (by decide +kernel) ⟨show (3 * fu + 6) + 1 ≤ 3 * fu + 7 by omega, show 8 + (6 + 11) + (82 * fu + 200) ≤ 82 * fu + 225 by omega⟩) hP hK rfl hl.1 rfl (lv_room (Nat.le_of_ble_eq_true rfl)) dX8_ofParts_64) hS (fun r_20 o_21 F_22 H locs hw_23 hP hS => ?_)
      try dsimp only at hw_23
      obtain ⟨⟨⟨ix2, hR2, hP2⟩, hM2, hv2, hs2, ⟨a1, ⟨hx9, hh9, a2, a3⟩, a4⟩, hK2⟩, hd2⟩ := hw_23
      have x9 := x_cp fu zi ((parts z t).getD i 0) way mm mm
      generalize cp fu zi ((parts z t).getD i 0) way mm mm = Z1 at hst hR2 hP2 hM2 hv2 a1 x9
      refine lv_istore (lv' := [(7, .int r_20), (6, .int (nI i)), (0, .ref (mh G)), (1, .int (nI t)), (2, .int (nI way)), (3, .int (nI mm)), (4, .int (nI lf)), (5, .int 0)]) hx hb dX8_ofParts_67 hl (by decide) rfl (fun ls hl => ?_)
      refine lv_aload_n hx hb dX8_ofParts_69 rfl (lv_at hl 2 rfl) ?_
      refine m_get (v := .ref (md G 38)) hx hb htu wu_in hown hK hP 38 (by decide) (htu _ U_75) rfl rfl dX8_ofParts_70 ?_
      refine lv_aload_n hx hb dX8_ofParts_73 rfl (lv_at hl 2 rfl) ?_
      refine m_get (v := .int (nI hx9)) hx hb htu wu_in hown hK hP 39 (by decide) (htu _ U_57) rfl (m_v hh9) dX8_ofParts_74 ?_
      refine lv_iload hx hb dX8_ofParts_77 (lv_at hl 0 rfl) ?_
      refine m_ast (j := hx9) (x := r_20) hx hb hK hP hDD hS 23 38 rfl (by omega) (by decide) (mW_a38 _ _ _ _ _) dX8_ofParts_79 (fun H locs hP hS => ?_)
      refine lv_aload_n hx hb dX8_ofParts_80 rfl (lv_at hl 2 rfl) ?_
      refine lv_dup hx hb dX8_ofParts_81 rfl ?_
      refine m_get (v := .int (nI hx9)) hx hb htu wu_in hown hK hP 39 (by decide) (htu _ U_57) rfl (m_v hh9) dX8_ofParts_82 ?_
      refine lv_iconst (v := 1) hx hb dX8_ofParts_85 (by decide) ?_
      refine lv_iadd hx hb dX8_ofParts_86 ?_
      refine m_top (y := nI (hx9 + 1)) (nI_add hx9 1) ?_
      refine m_put (ty := .int) (x := nI (hx9 + 1)) hx hb htu wu_in hown hK hP hDD hS 39 (by decide) (htu _ U_57) rfl rfl (by decide +kernel) rfl rfl (mO_s39 _ _ _) dX8_ofParts_87 (fun H locs hP hS => ?_)
      refine lv_iinc (v := nI (i + 1)) (lv' := [(6, .int (nI (i + 1))), (7, .int r_20), (0, .ref (mh G)), (1, .int (nI t)), (2, .int (nI way)), (3, .int (nI mm)), (4, .int (nI lf)), (5, .int 0)]) hx hb dX8_ofParts_90 hl (k := 1) rfl (nI_1 i) (by decide) rfl (fun ls hl => ?_)
      refine lv_goto (tgt := 3) hx hb dX8_ofParts_93 (by decide) ?_
      have e9 : sto Z1.1 = 0 → nI (hx9 + 1) = nI (hm + (i + 1)) := fun hz => by have := (a1 hz).symm.trans hh9; rw [k1] at this; have := (nI_eq (by omega) (by omega)).mp this; exact congrArg nI (by omega)
      have u9 : sto Z1.1 = 0 → hx9 = hm + i := fun hz => by have := (a1 hz).symm.trans hh9; rw [k1] at this; exact ((nI_eq (by omega) (by omega)).mp this).symm
      have g9 : sto Z1.1 = 0 → ∀ q, q < i + 1 → fput F_22 38 hx9 r_20 38 (hm + q) = nI ((acc ++ [Z1.2]).getD q 0) ∧ (acc ++ [Z1.2]).getD q 0 < nT Z1.1 := fun hz q hq => by
        rcases Nat.lt_or_ge q i with h9 | h9
        · rw [gtL (by rw [hp1.2.2]; exact h9), fput_j (by have := u9 hz; omega)]; exact ⟨(a4 _ (by omega)).trans (k2 q h9).1, Nat.lt_of_lt_of_le (k2 q h9).2 x9.1⟩
        · obtain rfl : q = i := by omega
          rw [gtR hp1.2.2.symm, ← u9 hz, fput_s]; exact hv2 hz
      exact ih9 _ _ _ _ _ ⟨i + 1, Z1.1, ix2, (acc ++ [Z1.2]), upd o_21 39 (nI (hx9 + 1)), fput F_22 38 hx9 r_20, ls, by omega, hst, hR2, (Px.tr hR hp3 hp4 hP2), (hp4.tr x9), hM2, (hd2.trans hp6), (Kq.F (Kq.o (Kq.tr hp7 hK2) (by decide)) (by decide)), (fun hz => ⟨e9 hz, fun q hq => g9 hz q hq⟩), ⟨hx9 + 1, rfl, by omega, by omega⟩, (fun q hq => by rw [fput_j (by omega)]; exact (a4 q (by omega)).trans (hp10 q hq)), rfl, rfl, hP, hS, lv_sub hl [0, 2, 3, 4, 5, 6, 7] rfl, rfl⟩

