theorem dX8_lifts_0 : decode cX8_lifts 0 = .ok (.aload_n 0, 1) := by decide +kernel
theorem dX8_lifts_1 : decode cX8_lifts 1 = .ok (.getfield 31, 3) := by decide +kernel
theorem dX8_lifts_4 : decode cX8_lifts 4 = .ok (.iload_n 1, 1) := by decide +kernel
theorem dX8_lifts_5 : decode cX8_lifts 5 = .ok (.iaload, 1) := by decide +kernel
theorem dX8_lifts_6 : decode cX8_lifts 6 = .ok (.iload_n 3, 1) := by decide +kernel
theorem dX8_lifts_7 : decode cX8_lifts 7 = .ok (.if_icmp .gt 5, 3) := by decide +kernel
theorem dX8_lifts_12 : decode cX8_lifts 12 = .ok (.aload_n 0, 1) := by decide +kernel
theorem dX8_lifts_13 : decode cX8_lifts 13 = .ok (.getfield 28, 3) := by decide +kernel
theorem dX8_lifts_16 : decode cX8_lifts 16 = .ok (.iload_n 1, 1) := by decide +kernel
theorem dX8_lifts_17 : decode cX8_lifts 17 = .ok (.iaload, 1) := by decide +kernel
theorem dX8_lifts_18 : decode cX8_lifts 18 = .ok (.iconst 1, 1) := by decide +kernel
theorem dX8_lifts_19 : decode cX8_lifts 19 = .ok (.if_icmp .ne 46, 3) := by decide +kernel
theorem dX8_lifts_65 : decode cX8_lifts 65 = .ok (.aload_n 0, 1) := by decide +kernel
theorem dX8_lifts_66 : decode cX8_lifts 66 = .ok (.getfield 28, 3) := by decide +kernel
theorem dX8_lifts_69 : decode cX8_lifts 69 = .ok (.iload_n 1, 1) := by decide +kernel
theorem dX8_lifts_70 : decode cX8_lifts 70 = .ok (.iaload, 1) := by decide +kernel
theorem dX8_lifts_71 : decode cX8_lifts 71 = .ok (.iconst 2, 1) := by decide +kernel
theorem dX8_lifts_72 : decode cX8_lifts 72 = .ok (.if_icmp .ne 14, 3) := by decide +kernel
theorem dX8_lifts_86 : decode cX8_lifts 86 = .ok (.iconst 2, 1) := by decide +kernel
theorem dX8_lifts_87 : decode cX8_lifts 87 = .ok (.aload_n 0, 1) := by decide +kernel
theorem dX8_lifts_88 : decode cX8_lifts 88 = .ok (.getfield 34, 3) := by decide +kernel
theorem dX8_lifts_91 : decode cX8_lifts 91 = .ok (.iload_n 1, 1) := by decide +kernel
theorem dX8_lifts_92 : decode cX8_lifts 92 = .ok (.iaload, 1) := by decide +kernel
theorem dX8_lifts_93 : decode cX8_lifts 93 = .ok (.imul, 1) := by decide +kernel
theorem dX8_lifts_94 : decode cX8_lifts 94 = .ok (.iload_n 2, 1) := by decide +kernel
theorem dX8_lifts_95 : decode cX8_lifts 95 = .ok (.iadd, 1) := by decide +kernel
theorem dX8_lifts_96 : decode cX8_lifts 96 = .ok (.istore 5, 2) := by decide +kernel
theorem dX8_lifts_98 : decode cX8_lifts 98 = .ok (.aload_n 0, 1) := by decide +kernel
theorem dX8_lifts_99 : decode cX8_lifts 99 = .ok (.getfield 71, 3) := by decide +kernel
theorem dX8_lifts_102 : decode cX8_lifts 102 = .ok (.iload 5, 2) := by decide +kernel
theorem dX8_lifts_104 : decode cX8_lifts 104 = .ok (.iaload, 1) := by decide +kernel
theorem dX8_lifts_105 : decode cX8_lifts 105 = .ok (.iload 4, 2) := by decide +kernel
theorem dX8_lifts_107 : decode cX8_lifts 107 = .ok (.if_icmp .ne 11, 3) := by decide +kernel
theorem dX8_lifts_118 : decode cX8_lifts 118 = .ok (.aload_n 0, 1) := by decide +kernel
theorem dX8_lifts_119 : decode cX8_lifts 119 = .ok (.iload_n 3, 1) := by decide +kernel
theorem dX8_lifts_120 : decode cX8_lifts 120 = .ok (.invokevirtual 248, 3) := by decide +kernel
theorem dX8_lifts_123 : decode cX8_lifts 123 = .ok (.istore 6, 2) := by decide +kernel
theorem dX8_lifts_125 : decode cX8_lifts 125 = .ok (.iload 6, 2) := by decide +kernel
theorem dX8_lifts_127 : decode cX8_lifts 127 = .ok (.bipush (-9), 2) := by decide +kernel
theorem dX8_lifts_129 : decode cX8_lifts 129 = .ok (.if_icmp .ne 6, 3) := by decide +kernel
theorem dX8_lifts_132 : decode cX8_lifts 132 = .ok (.bipush (-9), 2) := by decide +kernel
theorem dX8_lifts_134 : decode cX8_lifts 134 = .ok (.ireturn, 1) := by decide +kernel
theorem dX8_lifts_135 : decode cX8_lifts 135 = .ok (.aload_n 0, 1) := by decide +kernel
theorem dX8_lifts_136 : decode cX8_lifts 136 = .ok (.getfield 71, 3) := by decide +kernel
theorem dX8_lifts_139 : decode cX8_lifts 139 = .ok (.iload 5, 2) := by decide +kernel
theorem dX8_lifts_141 : decode cX8_lifts 141 = .ok (.iload 4, 2) := by decide +kernel
theorem dX8_lifts_143 : decode cX8_lifts 143 = .ok (.iastore, 1) := by decide +kernel
theorem dX8_lifts_144 : decode cX8_lifts 144 = .ok (.aload_n 0, 1) := by decide +kernel
theorem dX8_lifts_145 : decode cX8_lifts 145 = .ok (.getfield 74, 3) := by decide +kernel
theorem dX8_lifts_148 : decode cX8_lifts 148 = .ok (.iload 5, 2) := by decide +kernel
theorem dX8_lifts_150 : decode cX8_lifts 150 = .ok (.iload 6, 2) := by decide +kernel
theorem dX8_lifts_152 : decode cX8_lifts 152 = .ok (.iastore, 1) := by decide +kernel
theorem dX8_lifts_153 : decode cX8_lifts 153 = .ok (.aload_n 0, 1) := by decide +kernel
theorem dX8_lifts_154 : decode cX8_lifts 154 = .ok (.iload_n 1, 1) := by decide +kernel
theorem dX8_lifts_155 : decode cX8_lifts 155 = .ok (.iconst 1, 1) := by decide +kernel
theorem dX8_lifts_156 : decode cX8_lifts 156 = .ok (.iload_n 2, 1) := by decide +kernel
theorem dX8_lifts_157 : decode cX8_lifts 157 = .ok (.isub, 1) := by decide +kernel
theorem dX8_lifts_158 : decode cX8_lifts 158 = .ok (.iload 6, 2) := by decide +kernel
theorem dX8_lifts_160 : decode cX8_lifts 160 = .ok (.invokevirtual 224, 3) := by decide +kernel
theorem dX8_lifts_163 : decode cX8_lifts 163 = .ok (.aload_n 0, 1) := by decide +kernel
theorem dX8_lifts_164 : decode cX8_lifts 164 = .ok (.getfield 62, 3) := by decide +kernel
theorem dX8_lifts_167 : decode cX8_lifts 167 = .ok (.iload 5, 2) := by decide +kernel
theorem dX8_lifts_169 : decode cX8_lifts 169 = .ok (.iaload, 1) := by decide +kernel
theorem dX8_lifts_170 : decode cX8_lifts 170 = .ok (.istore 7, 2) := by decide +kernel
theorem dX8_lifts_172 : decode cX8_lifts 172 = .ok (.aload_n 0, 1) := by decide +kernel
theorem dX8_lifts_173 : decode cX8_lifts 173 = .ok (.getfield 56, 3) := by decide +kernel
theorem dX8_lifts_176 : decode cX8_lifts 176 = .ok (.iload 5, 2) := by decide +kernel
theorem dX8_lifts_178 : decode cX8_lifts 178 = .ok (.iaload, 1) := by decide +kernel
theorem dX8_lifts_179 : decode cX8_lifts 179 = .ok (.istore 8, 2) := by decide +kernel
theorem dX8_lifts_181 : decode cX8_lifts 181 = .ok (.iconst 0, 1) := by decide +kernel
theorem dX8_lifts_182 : decode cX8_lifts 182 = .ok (.istore 9, 2) := by decide +kernel
theorem dX8_lifts_184 : decode cX8_lifts 184 = .ok (.iload 9, 2) := by decide +kernel
theorem dX8_lifts_186 : decode cX8_lifts 186 = .ok (.iload 7, 2) := by decide +kernel
theorem dX8_lifts_188 : decode cX8_lifts 188 = .ok (.if_icmp .ge 58, 3) := by decide +kernel
theorem dX8_lifts_246 : decode cX8_lifts 246 = .ok (.iload 6, 2) := by decide +kernel
theorem dX8_lifts_248 : decode cX8_lifts 248 = .ok (.ireturn, 1) := by decide +kernel
theorem dX8_lifts_191 : decode cX8_lifts 191 = .ok (.aload_n 0, 1) := by decide +kernel
theorem dX8_lifts_192 : decode cX8_lifts 192 = .ok (.getfield 184, 3) := by decide +kernel
theorem dX8_lifts_195 : decode cX8_lifts 195 = .ok (.ifCond .ne 51, 3) := by decide +kernel
theorem dX8_lifts_198 : decode cX8_lifts 198 = .ok (.aload_n 0, 1) := by decide +kernel
theorem dX8_lifts_199 : decode cX8_lifts 199 = .ok (.aload_n 0, 1) := by decide +kernel
theorem dX8_lifts_200 : decode cX8_lifts 200 = .ok (.getfield 50, 3) := by decide +kernel
theorem dX8_lifts_203 : decode cX8_lifts 203 = .ok (.iload 8, 2) := by decide +kernel
theorem dX8_lifts_205 : decode cX8_lifts 205 = .ok (.iaload, 1) := by decide +kernel
theorem dX8_lifts_206 : decode cX8_lifts 206 = .ok (.iload_n 2, 1) := by decide +kernel
theorem dX8_lifts_207 : decode cX8_lifts 207 = .ok (.iload_n 3, 1) := by decide +kernel
theorem dX8_lifts_208 : decode cX8_lifts 208 = .ok (.iload 4, 2) := by decide +kernel
theorem dX8_lifts_210 : decode cX8_lifts 210 = .ok (.invokevirtual 235, 3) := by decide +kernel
theorem dX8_lifts_213 : decode cX8_lifts 213 = .ok (.istore 10, 2) := by decide +kernel
theorem dX8_lifts_215 : decode cX8_lifts 215 = .ok (.aload_n 0, 1) := by decide +kernel
theorem dX8_lifts_216 : decode cX8_lifts 216 = .ok (.getfield 184, 3) := by decide +kernel
theorem dX8_lifts_219 : decode cX8_lifts 219 = .ok (.ifCond .ne 12, 3) := by decide +kernel
theorem dX8_lifts_231 : decode cX8_lifts 231 = .ok (.aload_n 0, 1) := by decide +kernel
theorem dX8_lifts_232 : decode cX8_lifts 232 = .ok (.getfield 53, 3) := by decide +kernel
theorem dX8_lifts_235 : decode cX8_lifts 235 = .ok (.iload 8, 2) := by decide +kernel
theorem dX8_lifts_237 : decode cX8_lifts 237 = .ok (.iaload, 1) := by decide +kernel
theorem dX8_lifts_238 : decode cX8_lifts 238 = .ok (.istore 8, 2) := by decide +kernel
theorem dX8_lifts_240 : decode cX8_lifts 240 = .ok (.iinc 9 1, 3) := by decide +kernel
theorem dX8_lifts_243 : decode cX8_lifts 243 = .ok (.goto (-59), 3) := by decide +kernel
theorem dX8_lifts_222 : decode cX8_lifts 222 = .ok (.aload_n 0, 1) := by decide +kernel
theorem dX8_lifts_223 : decode cX8_lifts 223 = .ok (.iload 6, 2) := by decide +kernel
theorem dX8_lifts_225 : decode cX8_lifts 225 = .ok (.iload_n 2, 1) := by decide +kernel
theorem dX8_lifts_226 : decode cX8_lifts 226 = .ok (.iload 10, 2) := by decide +kernel
theorem dX8_lifts_228 : decode cX8_lifts 228 = .ok (.invokevirtual 224, 3) := by decide +kernel
theorem dX8_lifts_110 : decode cX8_lifts 110 = .ok (.aload_n 0, 1) := by decide +kernel
theorem dX8_lifts_111 : decode cX8_lifts 111 = .ok (.getfield 74, 3) := by decide +kernel
theorem dX8_lifts_114 : decode cX8_lifts 114 = .ok (.iload 5, 2) := by decide +kernel
theorem dX8_lifts_116 : decode cX8_lifts 116 = .ok (.iaload, 1) := by decide +kernel
theorem dX8_lifts_117 : decode cX8_lifts 117 = .ok (.ireturn, 1) := by decide +kernel
theorem dX8_lifts_75 : decode cX8_lifts 75 = .ok (.aload_n 0, 1) := by decide +kernel
theorem dX8_lifts_76 : decode cX8_lifts 76 = .ok (.iload_n 1, 1) := by decide +kernel
theorem dX8_lifts_77 : decode cX8_lifts 77 = .ok (.iload_n 2, 1) := by decide +kernel
theorem dX8_lifts_78 : decode cX8_lifts 78 = .ok (.iload_n 3, 1) := by decide +kernel
theorem dX8_lifts_79 : decode cX8_lifts 79 = .ok (.iload 4, 2) := by decide +kernel
theorem dX8_lifts_81 : decode cX8_lifts 81 = .ok (.iconst 0, 1) := by decide +kernel
theorem dX8_lifts_82 : decode cX8_lifts 82 = .ok (.invokevirtual 244, 3) := by decide +kernel
theorem dX8_lifts_85 : decode cX8_lifts 85 = .ok (.ireturn, 1) := by decide +kernel
theorem dX8_lifts_22 : decode cX8_lifts 22 = .ok (.aload_n 0, 1) := by decide +kernel
theorem dX8_lifts_23 : decode cX8_lifts 23 = .ok (.aload_n 0, 1) := by decide +kernel
theorem dX8_lifts_24 : decode cX8_lifts 24 = .ok (.getfield 34, 3) := by decide +kernel
theorem dX8_lifts_27 : decode cX8_lifts 27 = .ok (.iload_n 1, 1) := by decide +kernel
theorem dX8_lifts_28 : decode cX8_lifts 28 = .ok (.iaload, 1) := by decide +kernel
theorem dX8_lifts_29 : decode cX8_lifts 29 = .ok (.iconst 1, 1) := by decide +kernel
theorem dX8_lifts_30 : decode cX8_lifts 30 = .ok (.iload_n 2, 1) := by decide +kernel
theorem dX8_lifts_31 : decode cX8_lifts 31 = .ok (.isub, 1) := by decide +kernel
theorem dX8_lifts_32 : decode cX8_lifts 32 = .ok (.iload_n 3, 1) := by decide +kernel
theorem dX8_lifts_33 : decode cX8_lifts 33 = .ok (.iload 4, 2) := by decide +kernel
theorem dX8_lifts_35 : decode cX8_lifts 35 = .ok (.invokevirtual 235, 3) := by decide +kernel
theorem dX8_lifts_38 : decode cX8_lifts 38 = .ok (.istore 5, 2) := by decide +kernel
theorem dX8_lifts_40 : decode cX8_lifts 40 = .ok (.aload_n 0, 1) := by decide +kernel
theorem dX8_lifts_41 : decode cX8_lifts 41 = .ok (.aload_n 0, 1) := by decide +kernel
theorem dX8_lifts_42 : decode cX8_lifts 42 = .ok (.getfield 37, 3) := by decide +kernel
theorem dX8_lifts_45 : decode cX8_lifts 45 = .ok (.iload_n 1, 1) := by decide +kernel
theorem dX8_lifts_46 : decode cX8_lifts 46 = .ok (.iaload, 1) := by decide +kernel
theorem dX8_lifts_47 : decode cX8_lifts 47 = .ok (.iload_n 2, 1) := by decide +kernel
theorem dX8_lifts_48 : decode cX8_lifts 48 = .ok (.iload_n 3, 1) := by decide +kernel
theorem dX8_lifts_49 : decode cX8_lifts 49 = .ok (.iload 4, 2) := by decide +kernel
theorem dX8_lifts_51 : decode cX8_lifts 51 = .ok (.invokevirtual 235, 3) := by decide +kernel
theorem dX8_lifts_54 : decode cX8_lifts 54 = .ok (.istore 6, 2) := by decide +kernel
theorem dX8_lifts_56 : decode cX8_lifts 56 = .ok (.aload_n 0, 1) := by decide +kernel
theorem dX8_lifts_57 : decode cX8_lifts 57 = .ok (.iload 5, 2) := by decide +kernel
theorem dX8_lifts_59 : decode cX8_lifts 59 = .ok (.iload 6, 2) := by decide +kernel
theorem dX8_lifts_61 : decode cX8_lifts 61 = .ok (.invokevirtual 241, 3) := by decide +kernel
theorem dX8_lifts_64 : decode cX8_lifts 64 = .ok (.ireturn, 1) := by decide +kernel
theorem dX8_lifts_10 : decode cX8_lifts 10 = .ok (.iload_n 1, 1) := by decide +kernel
theorem dX8_lifts_11 : decode cX8_lifts 11 = .ok (.ireturn, 1) := by decide +kernel
set_option maxHeartbeats 4000000 in
set_option maxRecDepth 100000 in
/-- lifts -/
theorem m_lifts (l : Launch) (G : mG) (hDD : mDD G) (o : Nat → Int32) (F : Nat → Nat → Int32) (fu : Nat) (z : aS) (ix : Nat → Nat → Nat) (lf : Nat) (t : Nat) (way : Nat) (mm : Nat) (hm : Nat) (ih : mLiftAt fu) (hR : MR z ix o F) (hML : ML lf z F) (hlf : lf < 2 ^ 31) (hw2 : way < 2) (hmm : mm ≤ 100) (hh : o 39 = nI hm) (hb0 : bnd (cp (fu + 1) z t way mm mm).1 ≤ 200000) (hd : o 32 = nI (60 - fu)) (hfu : fu < 60) (hh2 : hm + 6 * (fu + 1) ≤ 8000) (h0 : sto z = 0) (ht : t < nT z) (sz : Nat) : Met l yX8_lifts (wU yX8_lifts cX8_lifts 11 (some .int)) { frames := 3 * fu + 8, cells := 0, slots := 0, locals := 82 * fu + 252 } (mPc G o F sz [.ref (mh G), .int (nI t), .int (nI way), .int (nI mm), .int (nI lf)]) (mQi G sz (fun r u => LQ [7, 8, 9, 10, 11, 12, 13, 14, 15, 16, 17, 18, 19, 20, 21, 24, 27, 32, 36, 37, 38, 39] (ML lf) z ix hm (fu + 1) o F (cp (fu + 1) z t way mm mm) r u ∧ u.1 32 = o 32)) 0 0 (mA G sz) := by
  refine Met.ofW (cc := cX8_lifts) (maxL := 11) (ret := (some .int)) (by decide) rfl ?_
  intro p e s m args below meth c s₁ B hml hv
  obtain ⟨rfl, hsz, hP, hK⟩ := hv
  have hx := B.exec
  have hb := B.bytes
  have hr := B.returns
  have htu : ∀ w ∈ WU, w.before _ s = true := fun w h => atoms_spec (ws := (wU yX8_lifts cX8_lifts 11 (some .int))) B.pre w (List.mem_cons_of_mem _ h)
  have hown : s.vm.findClass RX8 = some m.cls := findClass_of_methodNamed B.named
  have hlocks := B.notSynchronized
  subst hsz
  have hS : va_S (mA G s.heap.size) s.heap s.heap [] := va_S.rf
  have hl := lv_entry ([.ref (mh G), .int (nI t), .int (nI way), .int (nI mm), .int (nI lf)]) (n := 11) (Nat.le_of_ble_eq_true rfl)
  rw [lg_entry_eq]
  generalize (lg_sl ([.ref (mh G), .int (nI t), .int (nI way), .int (nI mm), .int (nI lf)]) ++ List.replicate (11 - (lg_sl ([.ref (mh G), .int (nI t), .int (nI way), .int (nI mm), .int (nI lf)])).length) Slot.unset).toArray = ls at hl ⊢
  have hl : lv_has ls 11 [(0, .ref (mh G)), (1, .int (nI t)), (2, .int (nI way)), (3, .int (nI mm)), (4, .int (nI lf))] := hl
  obtain ⟨H, hHe⟩ : ∃ H : Heap, H = s.heap := ⟨_, rfl⟩
  rw [← hHe] at hP
  have hS : va_S (mA G s.heap.size) s.heap H [] := by rw [hHe]; exact va_S.rf
  refine W.heq hHe ?_
  obtain ⟨b1, b2, b3, b4, b5, b6, b7, b8⟩ := hR.2.1
  have t1 := hR.2.2.1 t ht
  have t1l := t1.2.2.2
  have t1s := t1.2.2.1.1
  refine lv_aload_n hx hb dX8_lifts_0 rfl (lv_at hl 0 rfl) ?_
  refine m_get (v := .ref (md G 9)) hx hb htu wu_in hown hK hP 9 (by decide) (htu _ U_54) rfl rfl dX8_lifts_1 ?_
  refine lv_iload_n hx hb dX8_lifts_4 rfl (lv_at hl 1 rfl) ?_
  refine m_ald (j := t) (v := nI (lev z t)) hx hb hK hP 8 9 rfl (by omega) (by decide) t1.2.1 dX8_lifts_5 ?_
  refine lv_iload_n hx hb dX8_lifts_6 rfl (lv_at hl 3 rfl) ?_
  refine lv_icmp_gt (tgt := 12) hx hb dX8_lifts_7 (by decide) (fun c_1 => ?_) (fun c_1 => ?_)
  · skip
    have nc_1 : mm < lev z t := (nI_ltI (a := mm) (b := lev z t) (by omega) (by omega)).mp c_1
    refine lv_aload_n hx hb dX8_lifts_12 rfl (lv_at hl 0 rfl) ?_
    refine m_get (v := .ref (md G 8)) hx hb htu wu_in hown hK hP 8 (by decide) (htu _ U_53) rfl rfl dX8_lifts_13 ?_
    refine lv_iload_n hx hb dX8_lifts_16 rfl (lv_at hl 1 rfl) ?_
    refine m_ald (j := t) (v := nI (srt z t)) hx hb hK hP 7 8 rfl (by omega) (by decide) t1.1 dX8_lifts_17 ?_
    refine lv_iconst (v := 1) hx hb dX8_lifts_18 (by decide) ?_
    refine lv_icmp_ne (tgt := 65) hx hb dX8_lifts_19 (by decide) (fun c_2 => ?_) (fun c_2 => ?_)
    · skip
      have nc_2 : ¬ srt z t = 1 := fun h9 => c_2 ((nI_eq (a := srt z t) (b := 1) (by omega) (by omega)).mpr h9)
      refine lv_aload_n hx hb dX8_lifts_65 rfl (lv_at hl 0 rfl) ?_
      refine m_get (v := .ref (md G 8)) hx hb htu wu_in hown hK hP 8 (by decide) (htu _ U_53) rfl rfl dX8_lifts_66 ?_
      refine lv_iload_n hx hb dX8_lifts_69 rfl (lv_at hl 1 rfl) ?_
      refine m_ald (j := t) (v := nI (srt z t)) hx hb hK hP 7 8 rfl (by omega) (by decide) t1.1 dX8_lifts_70 ?_
      refine lv_iconst (v := 2) hx hb dX8_lifts_71 (by decide) ?_
      refine lv_icmp_ne (tgt := 86) hx hb dX8_lifts_72 (by decide) (fun c_3 => ?_) (fun c_3 => ?_)
      · skip
        have nc_3 : ¬ srt z t = 2 := fun h9 => c_3 ((nI_eq (a := srt z t) (b := 2) (by omega) (by omega)).mpr h9)
        have nl : ¬ lev z t ≤ mm := by omega
        have n3 : srt z t = 3 := hR.is3 ht (ab := mm) (by omega) (by assumption) (by assumption)
        obtain ⟨v1, v2, v3⟩ := hR.2.2.2.2.2.1.1 t ht n3
        refine lv_iconst (v := 2) hx hb dX8_lifts_86 (by decide) ?_
        refine lv_aload_n hx hb dX8_lifts_87 rfl (lv_at hl 0 rfl) ?_
        refine m_get (v := .ref (md G 10)) hx hb htu wu_in hown hK hP 10 (by decide) (htu _ U_80) rfl rfl dX8_lifts_88 ?_
        refine lv_iload_n hx hb dX8_lifts_91 rfl (lv_at hl 1 rfl) ?_
        refine m_ald (j := t) (v := nI (one z t)) hx hb hK hP 9 10 rfl (by omega) (by decide) v1 dX8_lifts_92 ?_
        refine lv_imul hx hb dX8_lifts_93 ?_
        refine m_top (y := nI (2 * (one z t))) (pk_mul 2 (one z t)) ?_
        refine lv_iload_n hx hb dX8_lifts_94 rfl (lv_at hl 2 rfl) ?_
        refine lv_iadd hx hb dX8_lifts_95 ?_
        refine m_top (y := nI (2 * (one z t) + way)) (nI_add (2 * (one z t)) way) ?_
        refine lv_istore (lv' := [(5, .int (nI (2 * (one z t) + way))), (0, .ref (mh G)), (1, .int (nI t)), (2, .int (nI way)), (3, .int (nI mm)), (4, .int (nI lf))]) hx hb dX8_lifts_96 hl (by decide) rfl (fun ls hl => ?_)
        rcases Decidable.em (memo z (2 * one z t + way) = 0) with hm0 | hm0
        · skip
          obtain ⟨jj, hjj, e36⟩ := (hML (2 * one z t + way) (by omega)).1 hm0
          refine lv_aload_n hx hb dX8_lifts_98 rfl (lv_at hl 1 rfl) ?_
          refine m_get (v := .ref (md G 36)) hx hb htu wu_in hown hK hP 36 (by decide) (htu _ U_58) rfl rfl dX8_lifts_99 ?_
          refine lv_iload hx hb dX8_lifts_102 (lv_at hl 0 rfl) ?_
          refine m_ald (j := 2 * (one z t) + way) (v := nI jj) hx hb hK hP 21 36 rfl (by omega) (by decide) e36 dX8_lifts_104 ?_
          refine lv_iload hx hb dX8_lifts_105 (lv_at hl 5 rfl) ?_
          refine lv_icmp_ne (tgt := 118) hx hb dX8_lifts_107 (by decide) (fun c_4 => ?_) (fun c_4 => absurd c_4 (fun h9 => absurd ((nI_eq (by omega) (by omega)).mp h9) (by omega)))
          refine lv_aload_n hx hb dX8_lifts_118 rfl (lv_at hl 1 rfl) ?_
          refine lv_iload_n hx hb dX8_lifts_119 rfl (lv_at hl 4 rfl) ?_
          refine m_ci (m_runV (As := [.int (nI mm)]) (rest := []) ⟨hx, hb, hml, hown, htu⟩ (m_newVariable l G hDD o F z ix mm hR hmm H.size) (cwV 1 htu gU_X8_newVariable rfl rfl rfl (by decide +kernel) ⟨show 2 + 1 ≤ 3 * fu + 8 by omega, show 8 + (4 + 11) + 44 ≤ 82 * fu + 252 by omega⟩) hP hK rfl hl.1 rfl (lv_room (Nat.le_of_ble_eq_true rfl)) dX8_lifts_120) hS (fun r_5 o_6 F_7 H locs hw_8 hP hS => ?_)
          try dsimp only at hw_8
          obtain ⟨gc, gR, gK⟩ := hw_8
          rcases gc with ⟨g1, g2⟩ | ⟨g1, eV⟩
          · skip
            subst g1
            refine lv_istore (lv' := [(6, .int ((-9))), (5, .int (nI (2 * (one z t) + way))), (0, .ref (mh G)), (1, .int (nI t)), (2, .int (nI way)), (3, .int (nI mm)), (4, .int (nI lf))]) hx hb dX8_lifts_123 hl (by decide) rfl (fun ls hl => ?_)
            refine lv_iload hx hb dX8_lifts_125 (lv_at hl 0 rfl) ?_
            refine lv_bipush (v := (-9)) hx hb dX8_lifts_127 (by decide) ?_
            refine lv_icmp_ne (tgt := 135) hx hb dX8_lifts_129 (by decide) (fun c_9 => absurd (by decide) c_9) (fun c_9 => ?_)
            refine lv_bipush (v := (-9)) hx hb dX8_lifts_132 (by decide) ?_
            exact m_iret (v := (-9)) hx hb hr hK hP hS (by rw [cp_no h0 nl n3 (by rw [mkey_lt hw2]; exact hm0) g2]; exact ⟨⟨⟨ix, gR, Px.rf⟩, hML.to (me_mkV _ _) (x_mkV _ _).1 (gK 36 (by decide)).2 (gK 37 (by decide)).2, fun h => absurd h g2, fun h => absurd h0 h, HM.own hh (gK 39 (by decide)).1 (gK 38 (by decide)).2, gK.mono (by decide)⟩, (gK 32 (by decide)).1⟩) dX8_lifts_134 hlocks
          · skip
            subst g1
            rw [eV] at gR
            have eZ := cpV_lt (z := z) (t := t) (lv := mm) hw2
            obtain ⟨Z0, eZ0⟩ : ∃ y, y = cpV z t way mm := ⟨_, rfl⟩
            rw [← eZ0] at eZ
            obtain ⟨L, eL⟩ : ∃ y, y = row Z0 way t := ⟨_, rfl⟩
            have ce := cp_vL (k := fu) (ab := mm) (lv := mm) h0 hw2 nl n3 hm0 eV
            rw [← eZ0, ← eL] at ce
            rw [ce] at hb0
            have hbz : bnd Z0 ≤ 200000 := Nat.le_trans b_vL hb0
            have xN : Lx z (w1 (newV z mm) 7 (2 * one z t + way) (nT z + 1)) := (x_newV z mm).tr (Lx.w1 _ 7 _ _ (by omega))
            have xZ : Lx z Z0 := by rw [eZ]; exact xN.tr (x_bind _ _ _ _ (by omega))
            have hZ : t < nT Z0 := Nat.lt_of_lt_of_le ht xZ.1
            obtain ⟨s1, s2, s3, -⟩ := xZ.2.2.1 t ht
            have hZ3 : srt Z0 t = 3 := s1.trans n3
            have nZ : nT Z0 = nT z + 1 := by rw [eZ]; rfl
            have z3 : srt Z0 (nT z) = 3 := by rw [eZ]; show (if nT z = nT z then 3 else _) = 3; rw [if_pos rfl]
            have bz1 : bnd (w1 (newV z mm) 7 (2 * one z t + way) (nT z + 1)) < 200000 := by rw [eZ, b_bind] at hbz; omega
            have b1N := gR.2.1.1
            refine lv_istore (lv' := [(6, .int (nI (nT z))), (5, .int (nI (2 * (one z t) + way))), (0, .ref (mh G)), (1, .int (nI t)), (2, .int (nI way)), (3, .int (nI mm)), (4, .int (nI lf))]) hx hb dX8_lifts_123 hl (by decide) rfl (fun ls hl => ?_)
            refine lv_iload hx hb dX8_lifts_125 (lv_at hl 0 rfl) ?_
            refine lv_bipush (v := (-9)) hx hb dX8_lifts_127 (by decide) ?_
            refine lv_icmp_ne (tgt := 135) hx hb dX8_lifts_129 (by decide) (fun c_10 => ?_) (fun c_10 => absurd c_10 (nI_neg (by decide) (by omega)))
            refine lv_aload_n hx hb dX8_lifts_135 rfl (lv_at hl 2 rfl) ?_
            refine m_get (v := .ref (md G 36)) hx hb htu wu_in hown hK hP 36 (by decide) (htu _ U_58) rfl rfl dX8_lifts_136 ?_
            refine lv_iload hx hb dX8_lifts_139 (lv_at hl 1 rfl) ?_
            refine lv_iload hx hb dX8_lifts_141 (lv_at hl 6 rfl) ?_
            refine m_ast (j := 2 * (one z t) + way) (x := nI lf) hx hb hK hP hDD hS 21 36 rfl (by omega) (by decide) (mW_a36 _ _ _ _ _) dX8_lifts_143 (fun H locs hP hS => ?_)
            refine lv_aload_n hx hb dX8_lifts_144 rfl (lv_at hl 2 rfl) ?_
            refine m_get (v := .ref (md G 37)) hx hb htu wu_in hown hK hP 37 (by decide) (htu _ U_142) rfl rfl dX8_lifts_145 ?_
            refine lv_iload hx hb dX8_lifts_148 (lv_at hl 1 rfl) ?_
            refine lv_iload hx hb dX8_lifts_150 (lv_at hl 0 rfl) ?_
            refine m_ast (j := 2 * (one z t) + way) (x := nI (nT z)) hx hb hK hP hDD hS 22 37 rfl (by omega) (by decide) (mW_a37 _ _ _ _ _) dX8_lifts_152 (fun H locs hP hS => ?_)
            refine lv_aload_n hx hb dX8_lifts_153 rfl (lv_at hl 2 rfl) ?_
            refine lv_iload_n hx hb dX8_lifts_154 rfl (lv_at hl 3 rfl) ?_
            refine lv_iconst (v := 1) hx hb dX8_lifts_155 (by decide) ?_
            refine lv_iload_n hx hb dX8_lifts_156 rfl (lv_at hl 4 rfl) ?_
            refine lv_isub hx hb dX8_lifts_157 ?_
            refine m_top (y := nI (1 - way)) (pk_sub (a := 1) (b := way) (by omega)) ?_
            refine lv_iload hx hb dX8_lifts_158 (lv_at hl 0 rfl) ?_
            refine m_cv (m_runV (As := [.int (nI t), .int (nI (1 - way)), .int (nI (nT z))]) (rest := []) ⟨hx, hb, hml, hown, htu⟩ (m_bind l G hDD o_6 (fput (fput F_7 36 (2 * (one z t) + way) (nI lf)) 37 (2 * (one z t) + way) (nI (nT z))) (w1 (newV z mm) 7 (2 * one z t + way) (nT z + 1)) ix t (1 - way) (nT z) gR ((Nat.lt_of_lt_of_le ht xN.1)) (((xN.2.2.1 t ht).1.trans n3)) ((by omega)) ((Nat.lt_succ_self _)) bz1 H.size) (cwV 3 htu gU_X8_bind rfl rfl rfl (by decide +kernel) ⟨show 0 + 1 ≤ 3 * fu + 8 by omega, show 8 + (5 + 11) + 0 ≤ 82 * fu + 252 by omega⟩) hP hK rfl hl.1 rfl (lv_room (Nat.le_of_ble_eq_true rfl)) dX8_lifts_160) hS (fun o_12 F_13 H locs hw_14 hP hS => ?_)
            try dsimp only at hw_14
            obtain ⟨⟨ix2, gR2, gP2⟩, gK2⟩ := hw_14
            rw [← eZ] at gR2
            obtain ⟨gw, gv⟩ := gR2.rw hZ hZ3 hw2
            rw [s3, ← eL] at gw
            refine lv_aload_n hx hb dX8_lifts_163 rfl (lv_at hl 2 rfl) ?_
            refine m_get (v := .ref (md G 21)) hx hb htu wu_in hown hK hP 21 (by decide) (htu _ U_116) rfl rfl dX8_lifts_164 ?_
            refine lv_iload hx hb dX8_lifts_167 (lv_at hl 1 rfl) ?_
            refine m_ald (j := 2 * (one z t) + way) (v := nI L.length) hx hb hK hP 18 21 rfl (by omega) (by decide) gw.1 dX8_lifts_169 ?_
            refine lv_istore (lv' := [(7, .int (nI L.length)), (6, .int (nI (nT z))), (5, .int (nI (2 * (one z t) + way))), (0, .ref (mh G)), (1, .int (nI t)), (2, .int (nI way)), (3, .int (nI mm)), (4, .int (nI lf))]) hx hb dX8_lifts_170 hl (by decide) rfl (fun ls hl => ?_)
            refine lv_aload_n hx hb dX8_lifts_172 rfl (lv_at hl 3 rfl) ?_
            refine m_get (v := .ref (md G 19)) hx hb htu wu_in hown hK hP 19 (by decide) (htu _ U_117) rfl rfl dX8_lifts_173 ?_
            refine lv_iload hx hb dX8_lifts_176 (lv_at hl 2 rfl) ?_
            refine m_ald (j := 2 * (one z t) + way) (v := F_13 19 (2 * (one z t) + way)) hx hb hK hP 16 19 rfl (by omega) (by decide) rfl dX8_lifts_178 ?_
            refine lv_istore (lv' := [(8, .int (F_13 19 (2 * (one z t) + way))), (7, .int (nI L.length)), (6, .int (nI (nT z))), (5, .int (nI (2 * (one z t) + way))), (0, .ref (mh G)), (1, .int (nI t)), (2, .int (nI way)), (3, .int (nI mm)), (4, .int (nI lf))]) hx hb dX8_lifts_179 hl (by decide) rfl (fun ls hl => ?_)
            refine lv_iconst (v := 0) hx hb dX8_lifts_181 (by decide) ?_
            refine lv_istore (lv' := [(9, .int 0), (8, .int (F_13 19 (2 * (one z t) + way))), (7, .int (nI L.length)), (6, .int (nI (nT z))), (5, .int (nI (2 * (one z t) + way))), (0, .ref (mh G)), (1, .int (nI t)), (2, .int (nI way)), (3, .int (nI mm)), (4, .int (nI lf))]) hx hb dX8_lifts_182 hl (by decide) rfl (fun ls hl => ?_)
            refine w_loop (fun j H locs k sl g => ∃ (i : Nat) (zi : aS) (ix1 : Nat → Nat → Nat) (o1 : Nat → Int32) (F1 : Nat → Nat → Int32) (kv : Int32) (ls : Array Slot), i + j = L.length ∧ cpR (fun s x => cp fu s x way mm mm) (nT z) way Z0 L = cpR (fun s x => cp fu s x way mm mm) (nT z) way zi (L.drop i) ∧ MR zi ix1 o1 F1 ∧ Px z ix ix1 ∧ Lx Z0 zi ∧ ML lf zi F1 ∧ o1 32 = o 32 ∧ Kq [7, 8, 9, 10, 11, 12, 13, 14, 15, 16, 17, 18, 19, 20, 21, 24, 27, 32, 36, 37, 38, 39] o F (o1, F1) ∧ HM zi hm fu o F (o1, F1) ∧ (i < L.length → kv = nI (ix1 (2 * one z t + way) i)) ∧ k = 0 ∧ sl = 0 ∧ mP G o1 F1 H ∧ va_S (mA G s.heap.size) s.heap H locs ∧ lv_has ls 11 [(9, .int (nI i)), (0, .ref (mh G)), (1, .int (nI t)), (2, .int (nI way)), (3, .int (nI mm)), (4, .int (nI lf)), (5, .int (nI (2 * one z t + way))), (6, .int (nI (nT z))), (7, .int (nI L.length)), (8, .int kv)] ∧ g = F0 m 184 ls []) ?_ ?_ L.length _ _ _ _ _ ⟨0, Z0, ix2, o_12, F_13, (F_13 19 (2 * one z t + way)), ls, by omega, rfl, gR2, (Px.tr hR Px.rf xN gP2), Lx.rf, (hML.new (q := 2 * one z t + way) (fun i => by rw [eZ]; rfl) (by omega) ((gK2 36 (by decide)).2.trans (congrArg (fun f => upd f _ _) (gK 36 (by decide)).2)) ((gK2 37 (by decide)).2.trans (congrArg (fun f => upd f _ _) (gK 37 (by decide)).2))), ((gK2 32 (by decide)).1.trans (gK 32 (by decide)).1), (Kq.tr (Kq.F (Kq.F (gK.mono (by decide)) (by decide)) (by decide)) (gK2.mono (by decide))), (HM.own hh ((gK2 39 (by decide)).1.trans (gK 39 (by decide)).1) ((gK2 38 (by decide)).2.trans (gK 38 (by decide)).2)), (fun h => (gw.2.2.1 h).1), rfl, rfl, hP, hS, lv_sub hl [0, 5, 6, 7, 8, 9, 4, 3, 2, 1] rfl, rfl⟩
            · intro H locs k sl g hI
              obtain ⟨i, zi, ix1, o1, F1, kv, ls, hp0, hp1, hp2, hp3, hp4, hp5, hp6, hp7, hp8, hp9, rfl, rfl, hP, hS, hl, rfl⟩ := hI
              obtain ⟨m1, m2, m3, m4, m5, m6, m7, m8⟩ := hp2.2.1
              have lb : L.length ≤ 200000 := Nat.le_trans gw.2.2.2.1 hbz
              refine lv_iload hx hb dX8_lifts_184 (lv_at hl 0 rfl) ?_
              refine lv_iload hx hb dX8_lifts_186 (lv_at hl 8 rfl) ?_
              refine lv_icmp_ge (tgt := 246) hx hb dX8_lifts_188 (by decide) (fun c_15 => ?_) (fun c_15 => absurd (nI_le (by omega) (by omega)) c_15)
              refine lv_iload hx hb dX8_lifts_246 (lv_at hl 7 rfl) ?_
              have hend : cpR (fun s x => cp fu s x way mm mm) (nT z) way Z0 L = zi := by rw [hp1, List.drop_eq_nil_of_le (by omega)]; rfl
              exact m_iret (v := nI (nT z)) hx hb hr hK hP hS (by rw [ce, hend]; exact ⟨⟨⟨ix1, hp2, hp3⟩, hp5, fun _ => ⟨rfl, Nat.lt_of_lt_of_le (by omega) hp4.1⟩, fun h => absurd h0 h, hp8.mono (by omega) id, hp7⟩, hp6⟩) dX8_lifts_248 hlocks
            · intro j ih9 H locs k sl g hI
              obtain ⟨i, zi, ix1, o1, F1, kv, ls, hp0, hp1, hp2, hp3, hp4, hp5, hp6, hp7, hp8, hp9, rfl, rfl, hP, hS, hl, rfl⟩ := hI
              obtain ⟨m1, m2, m3, m4, m5, m6, m7, m8⟩ := hp2.2.1
              have lb : L.length ≤ 200000 := Nat.le_trans gw.2.2.2.1 hbz
              have ni : i < L.length := by omega
              refine lv_iload hx hb dX8_lifts_184 (lv_at hl 0 rfl) ?_
              refine lv_iload hx hb dX8_lifts_186 (lv_at hl 8 rfl) ?_
              refine lv_icmp_ge (tgt := 246) hx hb dX8_lifts_188 (by decide) (fun c_16 => absurd c_16 (nI_ge ni (by omega))) (fun c_16 => ?_)
              refine lv_aload_n hx hb dX8_lifts_191 rfl (lv_at hl 1 rfl) ?_
              refine m_get (v := .int (sc (sto zi))) hx hb htu wu_in hown hK hP 27 (by decide) (htu _ U_45) rfl (m_v hp2.1.2.2.2.2.1) dX8_lifts_192 ?_
              refine lv_if_ne (tgt := 246) hx hb dX8_lifts_195 (by decide) (fun c_17 => ?_) (fun c_17 => ?_)
              · skip
                refine lv_iload hx hb dX8_lifts_246 (lv_at hl 7 rfl) ?_
                have hend : cpR (fun s x => cp fu s x way mm mm) (nT z) way Z0 L = zi := by rw [hp1, cpR_stop (fun h => c_17 (sc_0.mpr h))]
                exact m_iret (v := nI (nT z)) hx hb hr hK hP hS (by rw [ce, hend]; exact ⟨⟨⟨ix1, hp2, hp3⟩, hp5, fun _ => ⟨rfl, Nat.lt_of_lt_of_le (by omega) hp4.1⟩, fun h => absurd h0 h, hp8.mono (by omega) id, hp7⟩, hp6⟩) dX8_lifts_248 hlocks
              · skip
                have g0 : sto zi = 0 := sc_0.mp c_17
                obtain rfl := hp9 ni
                obtain ⟨l1, l2, l3, l4, l5, l6, l7, l8⟩ := hp2.pl hp4 hZ hZ3 hw2 (by rw [← eL]; exact ni)
                rw [s3, ← eL] at l3
                rw [s3] at l2
                rw [← eL] at l4
                rw [s3] at l7
                have hst := hp1.trans (cpR_step (f := (fun s x => cp fu s x way mm mm)) (n := nT z) (sd := way) ni g0)
                have hbs := hb0
                rw [hst] at hbs
                have hbs := Nat.le_trans b_vL hbs
                have x9 := x_cp fu zi (L.getD i 0) way mm mm
                have hbi : bnd (cp fu zi (L.getD i 0) way mm mm).1 ≤ 200000 := Nat.le_trans (b_ite _ _ _) hbs
                refine lv_aload_n hx hb dX8_lifts_198 rfl (lv_at hl 1 rfl) ?_
                refine lv_aload_n hx hb dX8_lifts_199 rfl (lv_at hl 1 rfl) ?_
                refine m_get (v := .ref (md G 17)) hx hb htu wu_in hown hK hP 17 (by decide) (htu _ U_118) rfl rfl dX8_lifts_200 ?_
                refine lv_iload hx hb dX8_lifts_203 (lv_at hl 9 rfl) ?_
                refine m_ald (j := ix1 (2 * one z t + way) i) (v := nI (L.getD i 0)) hx hb hK hP 14 17 rfl (by omega) (by decide) l3 dX8_lifts_205 ?_
                refine lv_iload_n hx hb dX8_lifts_206 rfl (lv_at hl 3 rfl) ?_
                refine lv_iload_n hx hb dX8_lifts_207 rfl (lv_at hl 4 rfl) ?_
                refine lv_iload hx hb dX8_lifts_208 (lv_at hl 5 rfl) ?_
                refine m_ci (m_runV (As := [.int (nI (L.getD i 0)), .int (nI way), .int (nI mm), .int (nI lf)]) (rest := []) ⟨hx, hb, hml, hown, htu⟩ (ih l G hDD o1 F1 zi ix1 lf (L.getD i 0) way mm hm (nI (L.getD i 0)) hp2 hp5 hlf hw2 hmm (((hp8.1 g0).trans hh)) hbi ((hp6.trans hd)) ((by omega)) ((fun _ => by omega)) ((by omega)) ((fun _ => ⟨rfl, l4⟩)) H.size) (cwV 4 htu gU_X8_lift rfl rfl rfl (by decide +kernel) ⟨show (3 * fu + 6) + 1 ≤ 3 * fu + 8 by omega, show 8 + (6 + 11) + (82 * fu + 200) ≤ 82 * fu + 252 by omega⟩) hP hK rfl hl.1 rfl (lv_room (Nat.le_of_ble_eq_true rfl)) dX8_lifts_210) hS (fun r_18 o_19 F_20 H locs hw_21 hP hS => ?_)
                try dsimp only at hw_21
                obtain ⟨⟨⟨ix3, hR2, hP2⟩, hM2, hv2, hs2, hH2, hK2⟩, hd2⟩ := hw_21
                have q3 : ix3 (2 * one z t + way) i = ix1 (2 * one z t + way) i := by have := hP2.at hp2 l5 l6 hw2 l1; rw [l7] at this; exact this
                generalize cp fu zi (L.getD i 0) way mm mm = Z1 at hst hbs hbi hR2 hM2 hv2 hH2 x9
                refine lv_istore (lv' := [(10, .int r_18), (9, .int (nI i)), (0, .ref (mh G)), (1, .int (nI t)), (2, .int (nI way)), (3, .int (nI mm)), (4, .int (nI lf)), (5, .int (nI (2 * one z t + way))), (6, .int (nI (nT z))), (7, .int (nI L.length)), (8, .int (nI (ix1 (2 * one z t + way) i)))]) hx hb dX8_lifts_213 hl (by decide) rfl (fun ls hl => ?_)
                refine lv_aload_n hx hb dX8_lifts_215 rfl (lv_at hl 2 rfl) ?_
                refine m_get (v := .int (sc (sto Z1.1))) hx hb htu wu_in hown hK hP 27 (by decide) (htu _ U_45) rfl (m_v hR2.1.2.2.2.2.1) dX8_lifts_216 ?_
                refine lv_if_ne (tgt := 231) hx hb dX8_lifts_219 (by decide) (fun c_22 => ?_) (fun c_22 => ?_)
                · skip
                  have hz : sto Z1.1 ≠ 0 := fun h => c_22 (sc_0.mpr h)
                  rw [if_neg hz] at hst
                  refine lv_aload_n hx hb dX8_lifts_231 rfl (lv_at hl 2 rfl) ?_
                  refine m_get (v := .ref (md G 18)) hx hb htu wu_in hown hK hP 18 (by decide) (htu _ U_119) rfl rfl dX8_lifts_232 ?_
                  refine lv_iload hx hb dX8_lifts_235 (lv_at hl 10 rfl) ?_
                  refine m_ald (j := ix1 (2 * one z t + way) i) (v := F_20 18 (ix1 (2 * one z t + way) i)) hx hb hK hP 15 18 rfl (by omega) (by decide) rfl dX8_lifts_237 ?_
                  refine lv_istore (lv' := [(8, .int (F_20 18 (ix1 (2 * one z t + way) i))), (10, .int r_18), (9, .int (nI i)), (0, .ref (mh G)), (1, .int (nI t)), (2, .int (nI way)), (3, .int (nI mm)), (4, .int (nI lf)), (5, .int (nI (2 * one z t + way))), (6, .int (nI (nT z))), (7, .int (nI L.length))]) hx hb dX8_lifts_238 hl (by decide) rfl (fun ls hl => ?_)
                  refine lv_iinc (v := nI (i + 1)) (lv' := [(9, .int (nI (i + 1))), (8, .int (F_20 18 (ix1 (2 * one z t + way) i))), (10, .int r_18), (0, .ref (mh G)), (1, .int (nI t)), (2, .int (nI way)), (3, .int (nI mm)), (4, .int (nI lf)), (5, .int (nI (2 * one z t + way))), (6, .int (nI (nT z))), (7, .int (nI L.length))]) hx hb dX8_lifts_240 hl (k := 2) rfl (nI_1 i) (by decide) rfl (fun ls hl => ?_)
                  refine lv_goto (tgt := 184) hx hb dX8_lifts_243 (by decide) ?_
                  exact ih9 _ _ _ _ _ ⟨i + 1, Z1.1, ix3, o_19, F_20, (F_20 18 (ix1 (2 * one z t + way) i)), ls, by omega, hst, hR2, (Px.tr hR hp3 (xZ.tr hp4) hP2), (hp4.tr x9), hM2, (hd2.trans hp6), (Kq.tr hp7 hK2), (HM.tr hp8 hh (h1 := hm) (fun _ => rfl) hH2 (fun h => absurd g0 h) (fun _ => g0)), (fun h => by have h6 := (hR2.pl (hp4.tr x9) hZ hZ3 hw2 (i := i) (by rw [← eL]; exact ni)).2.2.2.2.2.2.2 (by rw [← eL]; exact h); rw [s3, q3] at h6; exact h6), rfl, rfl, hP, hS, lv_sub hl [0, 3, 4, 5, 6, 7, 8, 9, 10, 1] rfl, rfl⟩
                · skip
                  have hz : sto Z1.1 = 0 := sc_0.mp c_22
                  obtain ⟨rfl, hv3⟩ := hv2 hz
                  rw [if_pos hz] at hst hbs
                  rw [b_bind] at hbs
                  have x8 := hp4.tr x9
                  have hn9 : nT z < nT Z1.1 := Nat.lt_of_lt_of_le (by omega) x8.1
                  refine lv_aload_n hx hb dX8_lifts_222 rfl (lv_at hl 2 rfl) ?_
                  refine lv_iload hx hb dX8_lifts_223 (lv_at hl 8 rfl) ?_
                  refine lv_iload_n hx hb dX8_lifts_225 rfl (lv_at hl 4 rfl) ?_
                  refine lv_iload hx hb dX8_lifts_226 (lv_at hl 0 rfl) ?_
                  refine m_cv (m_runV (As := [.int (nI (nT z)), .int (nI way), .int (nI Z1.2)]) (rest := []) ⟨hx, hb, hml, hown, htu⟩ (m_bind l G hDD o_19 F_20 Z1.1 ix3 (nT z) way Z1.2 hR2 hn9 (((x8.2.2.1 (nT z) (by omega)).1.trans z3)) hw2 hv3 ((by omega)) H.size) (cwV 3 htu gU_X8_bind rfl rfl rfl (by decide +kernel) ⟨show 0 + 1 ≤ 3 * fu + 8 by omega, show 8 + (5 + 11) + 0 ≤ 82 * fu + 252 by omega⟩) hP hK rfl hl.1 rfl (lv_room (Nat.le_of_ble_eq_true rfl)) dX8_lifts_228) hS (fun o_24 F_25 H locs hw_26 hP hS => ?_)
                  try dsimp only at hw_26
                  obtain ⟨⟨ix4, hR4, hP4⟩, hK4⟩ := hw_26
                  have x7 := x_bind Z1.1 (nT z) way Z1.2 hw2
                  have q4 : ix4 (2 * one z t + way) i = ix3 (2 * one z t + way) i := by obtain ⟨k1, k2, k3, k4, k5, k6, k7, k8⟩ := hR2.pl x9 l5 l6 hw2 l1; have := hP4.at hR2 k5 k6 hw2 k1; rw [k7, l7] at this; exact this
                  refine lv_aload_n hx hb dX8_lifts_231 rfl (lv_at hl 2 rfl) ?_
                  refine m_get (v := .ref (md G 18)) hx hb htu wu_in hown hK hP 18 (by decide) (htu _ U_119) rfl rfl dX8_lifts_232 ?_
                  refine lv_iload hx hb dX8_lifts_235 (lv_at hl 10 rfl) ?_
                  refine m_ald (j := ix1 (2 * one z t + way) i) (v := F_25 18 (ix1 (2 * one z t + way) i)) hx hb hK hP 15 18 rfl (by omega) (by decide) rfl dX8_lifts_237 ?_
                  refine lv_istore (lv' := [(8, .int (F_25 18 (ix1 (2 * one z t + way) i))), (10, .int (nI Z1.2)), (9, .int (nI i)), (0, .ref (mh G)), (1, .int (nI t)), (2, .int (nI way)), (3, .int (nI mm)), (4, .int (nI lf)), (5, .int (nI (2 * one z t + way))), (6, .int (nI (nT z))), (7, .int (nI L.length))]) hx hb dX8_lifts_238 hl (by decide) rfl (fun ls hl => ?_)
                  refine lv_iinc (v := nI (i + 1)) (lv' := [(9, .int (nI (i + 1))), (8, .int (F_25 18 (ix1 (2 * one z t + way) i))), (10, .int (nI Z1.2)), (0, .ref (mh G)), (1, .int (nI t)), (2, .int (nI way)), (3, .int (nI mm)), (4, .int (nI lf)), (5, .int (nI (2 * one z t + way))), (6, .int (nI (nT z))), (7, .int (nI L.length))]) hx hb dX8_lifts_240 hl (k := 2) rfl (nI_1 i) (by decide) rfl (fun ls hl => ?_)
                  refine lv_goto (tgt := 184) hx hb dX8_lifts_243 (by decide) ?_
                  exact ih9 _ _ _ _ _ ⟨i + 1, (bind Z1.1 (nT z) way Z1.2), ix4, o_24, F_25, (F_25 18 (ix1 (2 * one z t + way) i)), ls, by omega, hst, hR4, (Px.tr hR (Px.tr hR hp3 (xZ.tr hp4) hP2) (xZ.tr x8) hP4), (x8.tr x7), (hM2.to (me_bind _ _ _ _) (Nat.le_refl _) (hK4 36 (by decide)).2 (hK4 37 (by decide)).2), (((hK4 32 (by decide)).1.trans hd2).trans hp6), (Kq.tr (Kq.tr hp7 hK2) (hK4.mono (by decide))), (HM.next (HM.tr hp8 hh (h1 := hm) (fun _ => rfl) hH2 (fun h => absurd g0 h) (fun _ => g0)) (hK4 39 (by decide)).1 (hK4 38 (by decide)).2 (Nat.le_refl _) (fun h => hz)), (fun h => by have h6 := (hR4.pl (x8.tr x7) hZ hZ3 hw2 (i := i) (by rw [← eL]; exact ni)).2.2.2.2.2.2.2 (by rw [← eL]; exact h); rw [s3, q4, q3] at h6; exact h6), rfl, rfl, hP, hS, lv_sub hl [0, 3, 4, 5, 6, 7, 8, 9, 10, 1] rfl, rfl⟩
        · skip
          have mf := (hML (2 * one z t + way) (by omega)).2 hm0
          refine lv_aload_n hx hb dX8_lifts_98 rfl (lv_at hl 1 rfl) ?_
          refine m_get (v := .ref (md G 36)) hx hb htu wu_in hown hK hP 36 (by decide) (htu _ U_58) rfl rfl dX8_lifts_99 ?_
          refine lv_iload hx hb dX8_lifts_102 (lv_at hl 0 rfl) ?_
          refine m_ald (j := 2 * (one z t) + way) (v := nI lf) hx hb hK hP 21 36 rfl (by omega) (by decide) mf.1 dX8_lifts_104 ?_
          refine lv_iload hx hb dX8_lifts_105 (lv_at hl 5 rfl) ?_
          refine lv_icmp_ne (tgt := 118) hx hb dX8_lifts_107 (by decide) (fun c_27 => absurd rfl c_27) (fun c_27 => ?_)
          refine lv_aload_n hx hb dX8_lifts_110 rfl (lv_at hl 1 rfl) ?_
          refine m_get (v := .ref (md G 37)) hx hb htu wu_in hown hK hP 37 (by decide) (htu _ U_142) rfl rfl dX8_lifts_111 ?_
          refine lv_iload hx hb dX8_lifts_114 (lv_at hl 0 rfl) ?_
          refine m_ald (j := 2 * (one z t) + way) (v := nI (memo z (2 * one z t + way) - 1)) hx hb hK hP 22 37 rfl (by omega) (by decide) mf.2.1 dX8_lifts_116 ?_
          exact m_iret (v := nI (memo z (2 * one z t + way) - 1)) hx hb hr hK hP hS (by rw [cp_me h0 nl n3 (by rw [mkey_lt hw2]; exact hm0), mkey_lt hw2]; exact ⟨⟨⟨ix, hR, Px.rf⟩, hML, fun _ => ⟨rfl, by have := mf.2.2; show memo z _ - 1 < nT z; omega⟩, fun _ => rfl, HM.rf hh, Kq.rf⟩, rfl⟩) dX8_lifts_117 hlocks
      · skip
        have nc_3 : srt z t = 2 := (nI_eq (a := srt z t) (b := 2) (by omega) (by omega)).mp c_3
        have nl : ¬ lev z t ≤ mm := by omega
        have ce := cp_rc (k := fu) (way := way) (ab := mm) (lv := mm) h0 nl nc_3
        refine lv_aload_n hx hb dX8_lifts_75 rfl (lv_at hl 0 rfl) ?_
        refine lv_iload_n hx hb dX8_lifts_76 rfl (lv_at hl 1 rfl) ?_
        refine lv_iload_n hx hb dX8_lifts_77 rfl (lv_at hl 2 rfl) ?_
        refine lv_iload_n hx hb dX8_lifts_78 rfl (lv_at hl 3 rfl) ?_
        refine lv_iload hx hb dX8_lifts_79 (lv_at hl 4 rfl) ?_
        refine lv_iconst (v := 0) hx hb dX8_lifts_81 (by decide) ?_
        refine m_ci (m_runV (As := [.int (nI t), .int (nI way), .int (nI mm), .int (nI lf), .int 0]) (rest := []) ⟨hx, hb, hml, hown, htu⟩ (m_ofPartsL l G hDD o F fu z ix lf t way mm hm ih hR hML hlf hw2 hmm hh ((by rw [ce, b_mkR] at hb0; exact hb0)) hd hfu hh2 h0 ht ((by assumption)) H.size) (cwV 5 htu gU_X8_ofParts rfl rfl rfl (by decide +kernel) ⟨show (3 * fu + 7) + 1 ≤ 3 * fu + 8 by omega, show 8 + (8 + 11) + (82 * fu + 225) ≤ 82 * fu + 252 by omega⟩) hP hK rfl hl.1 rfl (lv_room (Nat.le_of_ble_eq_true rfl)) dX8_lifts_82) hS (fun r_28 o_29 F_30 H locs hw_31 hP hS => ?_)
        try dsimp only at hw_31
        exact m_iret (v := r_28) hx hb hr hK hP hS (by rw [ce]; exact hw_31) dX8_lifts_85 hlocks
    · skip
      have nc_2 : srt z t = 1 := (nI_eq (a := srt z t) (b := 1) (by omega) (by omega)).mp c_2
      have nl : ¬ lev z t ≤ mm := by omega
      have ha := hR.2.2.2.1 t ht nc_2
      have ce := cp_fn (k := fu) (way := way) (ab := mm) (lv := mm) h0 nl nc_2
      rw [otw_lt hw2] at ce
      obtain ⟨Z1, eZ1⟩ : ∃ y, y = cp fu z (one z t) (1 - way) mm mm := ⟨_, rfl⟩
      rw [← eZ1] at ce
      obtain ⟨Z2, eZ2⟩ : ∃ y, y = cp fu Z1.1 (two z t) way mm mm := ⟨_, rfl⟩
      rw [← eZ2] at ce
      have hb2 : bnd Z2.1 ≤ 200000 := by rw [ce, b_mkA] at hb0; exact hb0
      have hb1 : bnd Z1.1 ≤ 200000 := Nat.le_trans (by rw [eZ2]; exact b_cp _ _ _ _ _ _) hb2
      have x1 : Lx z Z1.1 := by rw [eZ1]; exact x_cp _ _ _ _ _ _
      have x2 : Lx Z1.1 Z2.1 := by rw [eZ2]; exact x_cp _ _ _ _ _ _
      have z1 : sto Z1.1 = 0 → sto z = 0 := fun _ => h0
      have z2 : sto Z2.1 = 0 → sto Z1.1 = 0 := fun h => by rw [eZ2] at h; exact cp_sto h
      refine lv_aload_n hx hb dX8_lifts_22 rfl (lv_at hl 0 rfl) ?_
      refine lv_aload_n hx hb dX8_lifts_23 rfl (lv_at hl 0 rfl) ?_
      refine m_get (v := .ref (md G 10)) hx hb htu wu_in hown hK hP 10 (by decide) (htu _ U_80) rfl rfl dX8_lifts_24 ?_
      refine lv_iload_n hx hb dX8_lifts_27 rfl (lv_at hl 1 rfl) ?_
      refine m_ald (j := t) (v := nI (one z t)) hx hb hK hP 9 10 rfl (by omega) (by decide) ha.1 dX8_lifts_28 ?_
      refine lv_iconst (v := 1) hx hb dX8_lifts_29 (by decide) ?_
      refine lv_iload_n hx hb dX8_lifts_30 rfl (lv_at hl 2 rfl) ?_
      refine lv_isub hx hb dX8_lifts_31 ?_
      refine m_top (y := nI (1 - way)) (pk_sub (a := 1) (b := way) (by omega)) ?_
      refine lv_iload_n hx hb dX8_lifts_32 rfl (lv_at hl 3 rfl) ?_
      refine lv_iload hx hb dX8_lifts_33 (lv_at hl 4 rfl) ?_
      refine m_ci (m_runV (As := [.int (nI (one z t)), .int (nI (1 - way)), .int (nI mm), .int (nI lf)]) (rest := []) ⟨hx, hb, hml, hown, htu⟩ (ih l G hDD o F z ix lf (one z t) (1 - way) mm hm (nI (one z t)) hR hML hlf ((by omega)) hmm hh ((by rw [← eZ1]; exact hb1)) hd ((by omega)) ((fun _ => by omega)) ((by omega)) ((fun _ => ⟨rfl, ha.2.2.1⟩)) H.size) (cwV 4 htu gU_X8_lift rfl rfl rfl (by decide +kernel) ⟨show (3 * fu + 6) + 1 ≤ 3 * fu + 8 by omega, show 8 + (6 + 11) + (82 * fu + 200) ≤ 82 * fu + 252 by omega⟩) hP hK rfl hl.1 rfl (lv_room (Nat.le_of_ble_eq_true rfl)) dX8_lifts_35) hS (fun r_32 o_33 F_34 H locs hw_35 hP hS => ?_)
      try dsimp only at hw_35
      rw [← eZ1] at hw_35
      obtain ⟨⟨⟨ix1, hR1, hP1⟩, hM1, hv1, hs1, hH1, hK1⟩, hd1⟩ := hw_35
      obtain ⟨hm1, hh1, he1, hx1⟩ := hH1.at hh (by omega)
      have ha1 := hR1.2.2.2.1 t (Nat.lt_of_lt_of_le ht x1.1) ((x1.2.2.1 t ht).1.trans (by assumption))
      rw [(x1.2.2.1 t ht).2.2.2.1] at ha1
      refine lv_istore (lv' := [(5, .int r_32), (0, .ref (mh G)), (1, .int (nI t)), (2, .int (nI way)), (3, .int (nI mm)), (4, .int (nI lf))]) hx hb dX8_lifts_38 hl (by decide) rfl (fun ls hl => ?_)
      refine lv_aload_n hx hb dX8_lifts_40 rfl (lv_at hl 1 rfl) ?_
      refine lv_aload_n hx hb dX8_lifts_41 rfl (lv_at hl 1 rfl) ?_
      refine m_get (v := .ref (md G 11)) hx hb htu wu_in hown hK hP 11 (by decide) (htu _ U_114) rfl rfl dX8_lifts_42 ?_
      refine lv_iload_n hx hb dX8_lifts_45 rfl (lv_at hl 2 rfl) ?_
      refine m_ald (j := t) (v := nI (two z t)) hx hb hK hP 10 11 rfl (by omega) (by decide) ha1.2.1 dX8_lifts_46 ?_
      refine lv_iload_n hx hb dX8_lifts_47 rfl (lv_at hl 3 rfl) ?_
      refine lv_iload_n hx hb dX8_lifts_48 rfl (lv_at hl 4 rfl) ?_
      refine lv_iload hx hb dX8_lifts_49 (lv_at hl 5 rfl) ?_
      refine m_ci (m_runV (As := [.int (nI (two z t)), .int (nI way), .int (nI mm), .int (nI lf)]) (rest := []) ⟨hx, hb, hml, hown, htu⟩ (ih l G hDD o_33 F_34 Z1.1 ix1 lf (two z t) way mm hm1 (nI (two z t)) hR1 hM1 hlf hw2 hmm hh1 ((by rw [← eZ2]; exact hb2)) ((hd1.trans hd)) ((by omega)) ((fun h => by have := he1 h; omega)) ((by omega)) ((fun _ => ⟨rfl, ha1.2.2.2⟩)) H.size) (cwV 4 htu gU_X8_lift rfl rfl rfl (by decide +kernel) ⟨show (3 * fu + 6) + 1 ≤ 3 * fu + 8 by omega, show 8 + (6 + 11) + (82 * fu + 200) ≤ 82 * fu + 252 by omega⟩) hP hK rfl hl.1 rfl (lv_room (Nat.le_of_ble_eq_true rfl)) dX8_lifts_51) hS (fun r_36 o_37 F_38 H locs hw_39 hP hS => ?_)
      try dsimp only at hw_39
      rw [← eZ2] at hw_39
      obtain ⟨⟨⟨ix2, hR2, hP2⟩, hM2, hv2, hs2, hH2, hK2⟩, hd2⟩ := hw_39
      refine lv_istore (lv' := [(6, .int r_36), (5, .int r_32), (0, .ref (mh G)), (1, .int (nI t)), (2, .int (nI way)), (3, .int (nI mm)), (4, .int (nI lf))]) hx hb dX8_lifts_54 hl (by decide) rfl (fun ls hl => ?_)
      refine lv_aload_n hx hb dX8_lifts_56 rfl (lv_at hl 2 rfl) ?_
      refine lv_iload hx hb dX8_lifts_57 (lv_at hl 1 rfl) ?_
      refine lv_iload hx hb dX8_lifts_59 (lv_at hl 0 rfl) ?_
      refine m_ci (m_runV (As := [.int r_32, .int r_36]) (rest := []) ⟨hx, hb, hml, hown, htu⟩ (m_arrow l G hDD o_37 F_38 Z2.1 ix2 Z1.2 Z2.2 r_32 r_36 hR2 ((fun h => ⟨(hv1 (z2 h)).1, (hv2 h).1, Nat.lt_of_lt_of_le (hv1 (z2 h)).2 x2.1, (hv2 h).2⟩)) H.size) (cwV 2 htu gU_X8_arrow rfl rfl rfl (by decide +kernel) ⟨show 2 + 1 ≤ 3 * fu + 8 by omega, show 8 + (4 + 11) + 44 ≤ 82 * fu + 252 by omega⟩) hP hK rfl hl.1 rfl (lv_room (Nat.le_of_ble_eq_true rfl)) dX8_lifts_61) hS (fun r_40 o_41 F_42 H locs hw_43 hP hS => ?_)
      try dsimp only at hw_43
      exact m_iret (v := r_40) hx hb hr hK hP hS (by rw [ce]; exact ⟨⟨⟨ix2, hw_43.2.1, Px.tr hR hP1 x1 hP2⟩, hM2.to (me_mkA _ _ _) (x_mkA _ _ _).1 (hw_43.2.2 36 (by decide)).2 (hw_43.2.2 37 (by decide)).2, hw_43.1, fun h => absurd h0 h, HM.next (HM.tr hH1 hh he1 hH2 hs2 z2) (hw_43.2.2 39 (by decide)).1 (hw_43.2.2 38 (by decide)).2 (by omega) mkA_sto, Kq.tr (Kq.tr hK1 hK2) (hw_43.2.2.mono (by decide))⟩, ((hw_43.2.2 32 (by decide)).1.trans hd2).trans hd1⟩) dX8_lifts_64 hlocks
  · skip
    have nc_1 : ¬ mm < lev z t := fun h9 => c_1 ((nI_ltI (a := mm) (b := lev z t) (by omega) (by omega)).mpr h9)
    refine lv_iload_n hx hb dX8_lifts_10 rfl (lv_at hl 1 rfl) ?_
    exact m_iret (v := nI t) hx hb hr hK hP hS (by rw [cp_le h0 (show lev z t ≤ mm by omega)]; exact ⟨⟨⟨ix, hR, Px.rf⟩, hML, fun _ => ⟨rfl, ht⟩, fun _ => rfl, HM.rf hh, Kq.rf⟩, rfl⟩) dX8_lifts_11 hlocks

