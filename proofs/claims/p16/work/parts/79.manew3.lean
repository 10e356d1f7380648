theorem dX8_anews_0 : decode cX8_anews 0 = .ok (.aload_n 0, 1) := by decide +kernel
theorem dX8_anews_1 : decode cX8_anews 1 = .ok (.getfield 31, 3) := by decide +kernel
theorem dX8_anews_4 : decode cX8_anews 4 = .ok (.iload_n 1, 1) := by decide +kernel
theorem dX8_anews_5 : decode cX8_anews 5 = .ok (.iaload, 1) := by decide +kernel
theorem dX8_anews_6 : decode cX8_anews 6 = .ok (.iload_n 2, 1) := by decide +kernel
theorem dX8_anews_7 : decode cX8_anews 7 = .ok (.if_icmp .gt 5, 3) := by decide +kernel
theorem dX8_anews_12 : decode cX8_anews 12 = .ok (.aload_n 0, 1) := by decide +kernel
theorem dX8_anews_13 : decode cX8_anews 13 = .ok (.getfield 28, 3) := by decide +kernel
theorem dX8_anews_16 : decode cX8_anews 16 = .ok (.iload_n 1, 1) := by decide +kernel
theorem dX8_anews_17 : decode cX8_anews 17 = .ok (.iaload, 1) := by decide +kernel
theorem dX8_anews_18 : decode cX8_anews 18 = .ok (.iconst 1, 1) := by decide +kernel
theorem dX8_anews_19 : decode cX8_anews 19 = .ok (.if_icmp .ne 40, 3) := by decide +kernel
theorem dX8_anews_59 : decode cX8_anews 59 = .ok (.aload_n 0, 1) := by decide +kernel
theorem dX8_anews_60 : decode cX8_anews 60 = .ok (.getfield 28, 3) := by decide +kernel
theorem dX8_anews_63 : decode cX8_anews 63 = .ok (.iload_n 1, 1) := by decide +kernel
theorem dX8_anews_64 : decode cX8_anews 64 = .ok (.iaload, 1) := by decide +kernel
theorem dX8_anews_65 : decode cX8_anews 65 = .ok (.iconst 2, 1) := by decide +kernel
theorem dX8_anews_66 : decode cX8_anews 66 = .ok (.if_icmp .ne 13, 3) := by decide +kernel
theorem dX8_anews_79 : decode cX8_anews 79 = .ok (.aload_n 0, 1) := by decide +kernel
theorem dX8_anews_80 : decode cX8_anews 80 = .ok (.getfield 34, 3) := by decide +kernel
theorem dX8_anews_83 : decode cX8_anews 83 = .ok (.iload_n 1, 1) := by decide +kernel
theorem dX8_anews_84 : decode cX8_anews 84 = .ok (.iaload, 1) := by decide +kernel
theorem dX8_anews_85 : decode cX8_anews 85 = .ok (.istore 4, 2) := by decide +kernel
theorem dX8_anews_87 : decode cX8_anews 87 = .ok (.aload_n 0, 1) := by decide +kernel
theorem dX8_anews_88 : decode cX8_anews 88 = .ok (.getfield 80, 3) := by decide +kernel
theorem dX8_anews_91 : decode cX8_anews 91 = .ok (.iload 4, 2) := by decide +kernel
theorem dX8_anews_93 : decode cX8_anews 93 = .ok (.iaload, 1) := by decide +kernel
theorem dX8_anews_94 : decode cX8_anews 94 = .ok (.aload_n 0, 1) := by decide +kernel
theorem dX8_anews_95 : decode cX8_anews 95 = .ok (.getfield 264, 3) := by decide +kernel
theorem dX8_anews_98 : decode cX8_anews 98 = .ok (.if_icmp .ne 11, 3) := by decide +kernel
theorem dX8_anews_109 : decode cX8_anews 109 = .ok (.aload_n 0, 1) := by decide +kernel
theorem dX8_anews_110 : decode cX8_anews 110 = .ok (.iload_n 3, 1) := by decide +kernel
theorem dX8_anews_111 : decode cX8_anews 111 = .ok (.invokevirtual 248, 3) := by decide +kernel
theorem dX8_anews_114 : decode cX8_anews 114 = .ok (.istore 5, 2) := by decide +kernel
theorem dX8_anews_116 : decode cX8_anews 116 = .ok (.iload 5, 2) := by decide +kernel
theorem dX8_anews_118 : decode cX8_anews 118 = .ok (.bipush (-9), 2) := by decide +kernel
theorem dX8_anews_120 : decode cX8_anews 120 = .ok (.if_icmp .ne 6, 3) := by decide +kernel
theorem dX8_anews_123 : decode cX8_anews 123 = .ok (.bipush (-9), 2) := by decide +kernel
theorem dX8_anews_125 : decode cX8_anews 125 = .ok (.ireturn, 1) := by decide +kernel
theorem dX8_anews_126 : decode cX8_anews 126 = .ok (.aload_n 0, 1) := by decide +kernel
theorem dX8_anews_127 : decode cX8_anews 127 = .ok (.getfield 80, 3) := by decide +kernel
theorem dX8_anews_130 : decode cX8_anews 130 = .ok (.iload 4, 2) := by decide +kernel
theorem dX8_anews_132 : decode cX8_anews 132 = .ok (.aload_n 0, 1) := by decide +kernel
theorem dX8_anews_133 : decode cX8_anews 133 = .ok (.getfield 264, 3) := by decide +kernel
theorem dX8_anews_136 : decode cX8_anews 136 = .ok (.iastore, 1) := by decide +kernel
theorem dX8_anews_137 : decode cX8_anews 137 = .ok (.aload_n 0, 1) := by decide +kernel
theorem dX8_anews_138 : decode cX8_anews 138 = .ok (.getfield 83, 3) := by decide +kernel
theorem dX8_anews_141 : decode cX8_anews 141 = .ok (.iload 4, 2) := by decide +kernel
theorem dX8_anews_143 : decode cX8_anews 143 = .ok (.iload 5, 2) := by decide +kernel
theorem dX8_anews_145 : decode cX8_anews 145 = .ok (.iastore, 1) := by decide +kernel
theorem dX8_anews_146 : decode cX8_anews 146 = .ok (.iconst 0, 1) := by decide +kernel
theorem dX8_anews_147 : decode cX8_anews 147 = .ok (.istore 6, 2) := by decide +kernel
theorem dX8_anews_149 : decode cX8_anews 149 = .ok (.iload 6, 2) := by decide +kernel
theorem dX8_anews_151 : decode cX8_anews 151 = .ok (.iconst 2, 1) := by decide +kernel
theorem dX8_anews_152 : decode cX8_anews 152 = .ok (.if_icmp .ge 101, 3) := by decide +kernel
theorem dX8_anews_253 : decode cX8_anews 253 = .ok (.iload 5, 2) := by decide +kernel
theorem dX8_anews_255 : decode cX8_anews 255 = .ok (.ireturn, 1) := by decide +kernel
theorem dX8_anews_155 : decode cX8_anews 155 = .ok (.aload_n 0, 1) := by decide +kernel
theorem dX8_anews_156 : decode cX8_anews 156 = .ok (.getfield 62, 3) := by decide +kernel
theorem dX8_anews_159 : decode cX8_anews 159 = .ok (.iconst 2, 1) := by decide +kernel
theorem dX8_anews_160 : decode cX8_anews 160 = .ok (.iload 4, 2) := by decide +kernel
theorem dX8_anews_162 : decode cX8_anews 162 = .ok (.imul, 1) := by decide +kernel
theorem dX8_anews_163 : decode cX8_anews 163 = .ok (.iload 6, 2) := by decide +kernel
theorem dX8_anews_165 : decode cX8_anews 165 = .ok (.iadd, 1) := by decide +kernel
theorem dX8_anews_166 : decode cX8_anews 166 = .ok (.iaload, 1) := by decide +kernel
theorem dX8_anews_167 : decode cX8_anews 167 = .ok (.istore 7, 2) := by decide +kernel
theorem dX8_anews_169 : decode cX8_anews 169 = .ok (.aload_n 0, 1) := by decide +kernel
theorem dX8_anews_170 : decode cX8_anews 170 = .ok (.getfield 56, 3) := by decide +kernel
theorem dX8_anews_173 : decode cX8_anews 173 = .ok (.iconst 2, 1) := by decide +kernel
theorem dX8_anews_174 : decode cX8_anews 174 = .ok (.iload 4, 2) := by decide +kernel
theorem dX8_anews_176 : decode cX8_anews 176 = .ok (.imul, 1) := by decide +kernel
theorem dX8_anews_177 : decode cX8_anews 177 = .ok (.iload 6, 2) := by decide +kernel
theorem dX8_anews_179 : decode cX8_anews 179 = .ok (.iadd, 1) := by decide +kernel
theorem dX8_anews_180 : decode cX8_anews 180 = .ok (.iaload, 1) := by decide +kernel
theorem dX8_anews_181 : decode cX8_anews 181 = .ok (.istore 8, 2) := by decide +kernel
theorem dX8_anews_183 : decode cX8_anews 183 = .ok (.iconst 0, 1) := by decide +kernel
theorem dX8_anews_184 : decode cX8_anews 184 = .ok (.istore 9, 2) := by decide +kernel
theorem dX8_anews_186 : decode cX8_anews 186 = .ok (.iload 9, 2) := by decide +kernel
theorem dX8_anews_188 : decode cX8_anews 188 = .ok (.iload 7, 2) := by decide +kernel
theorem dX8_anews_190 : decode cX8_anews 190 = .ok (.if_icmp .ge 57, 3) := by decide +kernel
theorem dX8_anews_247 : decode cX8_anews 247 = .ok (.iinc 6 1, 3) := by decide +kernel
theorem dX8_anews_250 : decode cX8_anews 250 = .ok (.goto (-101), 3) := by decide +kernel
theorem dX8_anews_193 : decode cX8_anews 193 = .ok (.aload_n 0, 1) := by decide +kernel
theorem dX8_anews_194 : decode cX8_anews 194 = .ok (.getfield 184, 3) := by decide +kernel
theorem dX8_anews_197 : decode cX8_anews 197 = .ok (.ifCond .ne 50, 3) := by decide +kernel
theorem dX8_anews_200 : decode cX8_anews 200 = .ok (.aload_n 0, 1) := by decide +kernel
theorem dX8_anews_201 : decode cX8_anews 201 = .ok (.aload_n 0, 1) := by decide +kernel
theorem dX8_anews_202 : decode cX8_anews 202 = .ok (.getfield 50, 3) := by decide +kernel
theorem dX8_anews_205 : decode cX8_anews 205 = .ok (.iload 8, 2) := by decide +kernel
theorem dX8_anews_207 : decode cX8_anews 207 = .ok (.iaload, 1) := by decide +kernel
theorem dX8_anews_208 : decode cX8_anews 208 = .ok (.iload_n 2, 1) := by decide +kernel
theorem dX8_anews_209 : decode cX8_anews 209 = .ok (.iload_n 3, 1) := by decide +kernel
theorem dX8_anews_210 : decode cX8_anews 210 = .ok (.invokevirtual 251, 3) := by decide +kernel
theorem dX8_anews_213 : decode cX8_anews 213 = .ok (.istore 10, 2) := by decide +kernel
theorem dX8_anews_215 : decode cX8_anews 215 = .ok (.aload_n 0, 1) := by decide +kernel
theorem dX8_anews_216 : decode cX8_anews 216 = .ok (.getfield 184, 3) := by decide +kernel
theorem dX8_anews_219 : decode cX8_anews 219 = .ok (.ifCond .ne 13, 3) := by decide +kernel
theorem dX8_anews_232 : decode cX8_anews 232 = .ok (.aload_n 0, 1) := by decide +kernel
theorem dX8_anews_233 : decode cX8_anews 233 = .ok (.getfield 53, 3) := by decide +kernel
theorem dX8_anews_236 : decode cX8_anews 236 = .ok (.iload 8, 2) := by decide +kernel
theorem dX8_anews_238 : decode cX8_anews 238 = .ok (.iaload, 1) := by decide +kernel
theorem dX8_anews_239 : decode cX8_anews 239 = .ok (.istore 8, 2) := by decide +kernel
theorem dX8_anews_241 : decode cX8_anews 241 = .ok (.iinc 9 1, 3) := by decide +kernel
theorem dX8_anews_244 : decode cX8_anews 244 = .ok (.goto (-58), 3) := by decide +kernel
theorem dX8_anews_222 : decode cX8_anews 222 = .ok (.aload_n 0, 1) := by decide +kernel
theorem dX8_anews_223 : decode cX8_anews 223 = .ok (.iload 5, 2) := by decide +kernel
theorem dX8_anews_225 : decode cX8_anews 225 = .ok (.iload 6, 2) := by decide +kernel
theorem dX8_anews_227 : decode cX8_anews 227 = .ok (.iload 10, 2) := by decide +kernel
theorem dX8_anews_229 : decode cX8_anews 229 = .ok (.invokevirtual 224, 3) := by decide +kernel
theorem dX8_anews_101 : decode cX8_anews 101 = .ok (.aload_n 0, 1) := by decide +kernel
theorem dX8_anews_102 : decode cX8_anews 102 = .ok (.getfield 83, 3) := by decide +kernel
theorem dX8_anews_105 : decode cX8_anews 105 = .ok (.iload 4, 2) := by decide +kernel
theorem dX8_anews_107 : decode cX8_anews 107 = .ok (.iaload, 1) := by decide +kernel
theorem dX8_anews_108 : decode cX8_anews 108 = .ok (.ireturn, 1) := by decide +kernel
theorem dX8_anews_69 : decode cX8_anews 69 = .ok (.aload_n 0, 1) := by decide +kernel
theorem dX8_anews_70 : decode cX8_anews 70 = .ok (.iload_n 1, 1) := by decide +kernel
theorem dX8_anews_71 : decode cX8_anews 71 = .ok (.iload_n 3, 1) := by decide +kernel
theorem dX8_anews_72 : decode cX8_anews 72 = .ok (.iload_n 2, 1) := by decide +kernel
theorem dX8_anews_73 : decode cX8_anews 73 = .ok (.iconst 0, 1) := by decide +kernel
theorem dX8_anews_74 : decode cX8_anews 74 = .ok (.iconst 1, 1) := by decide +kernel
theorem dX8_anews_75 : decode cX8_anews 75 = .ok (.invokevirtual 244, 3) := by decide +kernel
theorem dX8_anews_78 : decode cX8_anews 78 = .ok (.ireturn, 1) := by decide +kernel
theorem dX8_anews_22 : decode cX8_anews 22 = .ok (.aload_n 0, 1) := by decide +kernel
theorem dX8_anews_23 : decode cX8_anews 23 = .ok (.aload_n 0, 1) := by decide +kernel
theorem dX8_anews_24 : decode cX8_anews 24 = .ok (.getfield 34, 3) := by decide +kernel
theorem dX8_anews_27 : decode cX8_anews 27 = .ok (.iload_n 1, 1) := by decide +kernel
theorem dX8_anews_28 : decode cX8_anews 28 = .ok (.iaload, 1) := by decide +kernel
theorem dX8_anews_29 : decode cX8_anews 29 = .ok (.iload_n 2, 1) := by decide +kernel
theorem dX8_anews_30 : decode cX8_anews 30 = .ok (.iload_n 3, 1) := by decide +kernel
theorem dX8_anews_31 : decode cX8_anews 31 = .ok (.invokevirtual 251, 3) := by decide +kernel
theorem dX8_anews_34 : decode cX8_anews 34 = .ok (.istore 4, 2) := by decide +kernel
theorem dX8_anews_36 : decode cX8_anews 36 = .ok (.aload_n 0, 1) := by decide +kernel
theorem dX8_anews_37 : decode cX8_anews 37 = .ok (.aload_n 0, 1) := by decide +kernel
theorem dX8_anews_38 : decode cX8_anews 38 = .ok (.getfield 37, 3) := by decide +kernel
theorem dX8_anews_41 : decode cX8_anews 41 = .ok (.iload_n 1, 1) := by decide +kernel
theorem dX8_anews_42 : decode cX8_anews 42 = .ok (.iaload, 1) := by decide +kernel
theorem dX8_anews_43 : decode cX8_anews 43 = .ok (.iload_n 2, 1) := by decide +kernel
theorem dX8_anews_44 : decode cX8_anews 44 = .ok (.iload_n 3, 1) := by decide +kernel
theorem dX8_anews_45 : decode cX8_anews 45 = .ok (.invokevirtual 251, 3) := by decide +kernel
theorem dX8_anews_48 : decode cX8_anews 48 = .ok (.istore 5, 2) := by decide +kernel
theorem dX8_anews_50 : decode cX8_anews 50 = .ok (.aload_n 0, 1) := by decide +kernel
theorem dX8_anews_51 : decode cX8_anews 51 = .ok (.iload 4, 2) := by decide +kernel
theorem dX8_anews_53 : decode cX8_anews 53 = .ok (.iload 5, 2) := by decide +kernel
theorem dX8_anews_55 : decode cX8_anews 55 = .ok (.invokevirtual 241, 3) := by decide +kernel
theorem dX8_anews_58 : decode cX8_anews 58 = .ok (.ireturn, 1) := by decide +kernel
theorem dX8_anews_10 : decode cX8_anews 10 = .ok (.iload_n 1, 1) := by decide +kernel
theorem dX8_anews_11 : decode cX8_anews 11 = .ok (.ireturn, 1) := by decide +kernel
set_option maxHeartbeats 4000000 in
set_option maxRecDepth 100000 in
/-- anews -/
theorem m_anews (l : Launch) (G : mG) (hDD : mDD G) (o : Nat → Int32) (F : Nat → Nat → Int32) (fu : Nat) (z : aS) (ix : Nat → Nat → Nat) (lf : Nat) (t : Nat) (lv : Nat) (mm : Nat) (hm : Nat) (ih : mAnewAt fu) (hR : MR z ix o F) (hML : MN lf z F) (hlf : lf < 2 ^ 31) (hw2 : lv ≤ 100) (hn : o 42 = nI lf) (hmm : mm ≤ 100) (hh : o 39 = nI hm) (hb0 : bnd (cp (fu + 1) z t 2 mm lv).1 ≤ 200000) (hd : o 33 = nI (60 - fu)) (hfu : fu < 60) (hh2 : hm + 6 * (fu + 1) ≤ 8000) (h0 : sto z = 0) (ht : t < nT z) (sz : Nat) : Met l yX8_anews (wU yX8_anews cX8_anews 11 (some .int)) { frames := 3 * fu + 8, cells := 0, slots := 0, locals := 82 * fu + 252 } (mPc G o F sz [.ref (mh G), .int (nI t), .int (nI mm), .int (nI lv)]) (mQi G sz (fun r u => LQ [7, 8, 9, 10, 11, 12, 13, 14, 15, 16, 17, 18, 19, 20, 21, 24, 27, 33, 38, 39, 40, 41] (MN lf) z ix hm (fu + 1) o F (cp (fu + 1) z t 2 mm lv) r u ∧ u.1 33 = o 33)) 0 0 (mA G sz) := by
  refine Met.ofW (cc := cX8_anews) (maxL := 11) (ret := (some .int)) (by decide) rfl ?_
  intro p e s m args below meth c s₁ B hml hv
  obtain ⟨rfl, hsz, hP, hK⟩ := hv
  have hx := B.exec
  have hb := B.bytes
  have hr := B.returns
  have htu : ∀ w ∈ WU, w.before _ s = true := fun w h => atoms_spec (ws := (wU yX8_anews cX8_anews 11 (some .int))) B.pre w (List.mem_cons_of_mem _ h)
  have hown : s.vm.findClass RX8 = some m.cls := findClass_of_methodNamed B.named
  have hlocks := B.notSynchronized
  subst hsz
  have hS : va_S (mA G s.heap.size) s.heap s.heap [] := va_S.rf
  have hl := lv_entry ([.ref (mh G), .int (nI t), .int (nI mm), .int (nI lv)]) (n := 11) (Nat.le_of_ble_eq_true rfl)
  rw [lg_entry_eq]
  generalize (lg_sl ([.ref (mh G), .int (nI t), .int (nI mm), .int (nI lv)]) ++ List.replicate (11 - (lg_sl ([.ref (mh G), .int (nI t), .int (nI mm), .int (nI lv)])).length) Slot.unset).toArray = ls at hl ⊢
  have hl : lv_has ls 11 [(0, .ref (mh G)), (1, .int (nI t)), (2, .int (nI mm)), (3, .int (nI lv))] := hl
  obtain ⟨H, hHe⟩ : ∃ H : Heap, H = s.heap := ⟨_, rfl⟩
  rw [← hHe] at hP
  have hS : va_S (mA G s.heap.size) s.heap H [] := by rw [hHe]; exact va_S.rf
  refine W.heq hHe ?_
  obtain ⟨b1, b2, b3, b4, b5, b6, b7, b8⟩ := hR.2.1
  have t1 := hR.2.2.1 t ht
  have t1l := t1.2.2.2
  have t1s := t1.2.2.1.1
  refine lv_aload_n hx hb dX8_anews_0 rfl (lv_at hl 0 rfl) ?_
  refine m_get (v := .ref (md G 9)) hx hb htu wu_in hown hK hP 9 (by decide) (htu _ U_54) rfl rfl dX8_anews_1 ?_
  refine lv_iload_n hx hb dX8_anews_4 rfl (lv_at hl 1 rfl) ?_
  refine m_ald (j := t) (v := nI (lev z t)) hx hb hK hP 8 9 rfl (by omega) (by decide) t1.2.1 dX8_anews_5 ?_
  refine lv_iload_n hx hb dX8_anews_6 rfl (lv_at hl 2 rfl) ?_
  refine lv_icmp_gt (tgt := 12) hx hb dX8_anews_7 (by decide) (fun c_1 => ?_) (fun c_1 => ?_)
  · skip
    have nc_1 : mm < lev z t := (nI_ltI (a := mm) (b := lev z t) (by omega) (by omega)).mp c_1
    refine lv_aload_n hx hb dX8_anews_12 rfl (lv_at hl 0 rfl) ?_
    refine m_get (v := .ref (md G 8)) hx hb htu wu_in hown hK hP 8 (by decide) (htu _ U_53) rfl rfl dX8_anews_13 ?_
    refine lv_iload_n hx hb dX8_anews_16 rfl (lv_at hl 1 rfl) ?_
    refine m_ald (j := t) (v := nI (srt z t)) hx hb hK hP 7 8 rfl (by omega) (by decide) t1.1 dX8_anews_17 ?_
    refine lv_iconst (v := 1) hx hb dX8_anews_18 (by decide) ?_
    refine lv_icmp_ne (tgt := 59) hx hb dX8_anews_19 (by decide) (fun c_2 => ?_) (fun c_2 => ?_)
    · skip
      have nc_2 : ¬ srt z t = 1 := fun h9 => c_2 ((nI_eq (a := srt z t) (b := 1) (by omega) (by omega)).mpr h9)
      refine lv_aload_n hx hb dX8_anews_59 rfl (lv_at hl 0 rfl) ?_
      refine m_get (v := .ref (md G 8)) hx hb htu wu_in hown hK hP 8 (by decide) (htu _ U_53) rfl rfl dX8_anews_60 ?_
      refine lv_iload_n hx hb dX8_anews_63 rfl (lv_at hl 1 rfl) ?_
      refine m_ald (j := t) (v := nI (srt z t)) hx hb hK hP 7 8 rfl (by omega) (by decide) t1.1 dX8_anews_64 ?_
      refine lv_iconst (v := 2) hx hb dX8_anews_65 (by decide) ?_
      refine lv_icmp_ne (tgt := 79) hx hb dX8_anews_66 (by decide) (fun c_3 => ?_) (fun c_3 => ?_)
      · skip
        have nc_3 : ¬ srt z t = 2 := fun h9 => c_3 ((nI_eq (a := srt z t) (b := 2) (by omega) (by omega)).mpr h9)
        have nl : ¬ lev z t ≤ mm := by omega
        have n3 : srt z t = 3 := hR.is3 ht (ab := mm) (by omega) (by assumption) (by assumption)
        obtain ⟨v1, v2, v3⟩ := hR.2.2.2.2.2.1.1 t ht n3
        refine lv_aload_n hx hb dX8_anews_79 rfl (lv_at hl 0 rfl) ?_
        refine m_get (v := .ref (md G 10)) hx hb htu wu_in hown hK hP 10 (by decide) (htu _ U_80) rfl rfl dX8_anews_80 ?_
        refine lv_iload_n hx hb dX8_anews_83 rfl (lv_at hl 1 rfl) ?_
        refine m_ald (j := t) (v := nI (one z t)) hx hb hK hP 9 10 rfl (by omega) (by decide) v1 dX8_anews_84 ?_
        refine lv_istore (lv' := [(4, .int (nI (one z t))), (0, .ref (mh G)), (1, .int (nI t)), (2, .int (nI mm)), (3, .int (nI lv))]) hx hb dX8_anews_85 hl (by decide) rfl (fun ls hl => ?_)
        rcases Decidable.em (memo z (2 * one z t) = 0) with hm0 | hm0
        · skip
          obtain ⟨jj, hjj, e40⟩ := (hML (one z t) (by omega)).1 hm0
          refine lv_aload_n hx hb dX8_anews_87 rfl (lv_at hl 1 rfl) ?_
          refine m_get (v := .ref (md G 40)) hx hb htu wu_in hown hK hP 40 (by decide) (htu _ U_59) rfl rfl dX8_anews_88 ?_
          refine lv_iload hx hb dX8_anews_91 (lv_at hl 0 rfl) ?_
          refine m_ald (j := one z t) (v := nI jj) hx hb hK hP 24 40 rfl (by omega) (by decide) e40 dX8_anews_93 ?_
          refine lv_aload_n hx hb dX8_anews_94 rfl (lv_at hl 1 rfl) ?_
          refine m_get (v := .int (nI lf)) hx hb htu wu_in hown hK hP 42 (by decide) (htu _ U_56) rfl (m_v hn) dX8_anews_95 ?_
          refine lv_icmp_ne (tgt := 109) hx hb dX8_anews_98 (by decide) (fun c_4 => ?_) (fun c_4 => absurd c_4 (fun h9 => absurd ((nI_eq (by omega) (by omega)).mp h9) (by omega)))
          refine lv_aload_n hx hb dX8_anews_109 rfl (lv_at hl 1 rfl) ?_
          refine lv_iload_n hx hb dX8_anews_110 rfl (lv_at hl 4 rfl) ?_
          refine m_ci (m_runV (As := [.int (nI lv)]) (rest := []) ⟨hx, hb, hml, hown, htu⟩ (m_newVariable l G hDD o F z ix lv hR hw2 H.size) (cwV 1 htu gU_X8_newVariable rfl rfl rfl (by decide +kernel) ⟨show 2 + 1 ≤ 3 * fu + 8 by omega, show 8 + (4 + 11) + 44 ≤ 82 * fu + 252 by omega⟩) hP hK rfl hl.1 rfl (lv_room (Nat.le_of_ble_eq_true rfl)) dX8_anews_111) hS (fun r_5 o_6 F_7 H locs hw_8 hP hS => ?_)
          try dsimp only at hw_8
          obtain ⟨gc, gR, gK⟩ := hw_8
          rcases gc with ⟨g1, g2⟩ | ⟨g1, eV⟩
          · skip
            subst g1
            refine lv_istore (lv' := [(5, .int ((-9))), (4, .int (nI (one z t))), (0, .ref (mh G)), (1, .int (nI t)), (2, .int (nI mm)), (3, .int (nI lv))]) hx hb dX8_anews_114 hl (by decide) rfl (fun ls hl => ?_)
            refine lv_iload hx hb dX8_anews_116 (lv_at hl 0 rfl) ?_
            refine lv_bipush (v := (-9)) hx hb dX8_anews_118 (by decide) ?_
            refine lv_icmp_ne (tgt := 126) hx hb dX8_anews_120 (by decide) (fun c_9 => absurd (by decide) c_9) (fun c_9 => ?_)
            refine lv_bipush (v := (-9)) hx hb dX8_anews_123 (by decide) ?_
            exact m_iret (v := (-9)) hx hb hr hK hP hS (by rw [cp_no h0 nl n3 (show memo z (mkey z t 2) = 0 from hm0) g2]; exact ⟨⟨⟨ix, gR, Px.rf⟩, hML.to (me_mkV _ _) (x_mkV _ _).1 (gK 40 (by decide)).2 (gK 41 (by decide)).2, fun h => absurd h g2, fun h => absurd h0 h, HM.own hh (gK 39 (by decide)).1 (gK 38 (by decide)).2, gK.mono (by decide)⟩, (gK 33 (by decide)).1⟩) dX8_anews_125 hlocks
          · skip
            subst g1
            rw [eV] at gR
            obtain ⟨Z0, eZ⟩ : ∃ y, y = w1 (newV z lv) 7 (2 * one z t) (nT z + 1) := ⟨_, rfl⟩
            have ce := cp_vA (k := fu) (ab := mm) (lv := lv) h0 nl n3 hm0 eV
            rw [← eZ] at ce
            rw [ce] at hb0
            have hbz : bnd Z0 ≤ 200000 := Nat.le_trans b_cpS hb0
            have xZ : Lx z Z0 := by rw [eZ]; exact (x_newV z lv).tr (Lx.w1 _ 7 _ _ (by omega))
            have hZ : t < nT Z0 := Nat.lt_of_lt_of_le ht xZ.1
            obtain ⟨s1, s2, s3, -⟩ := xZ.2.2.1 t ht
            have hZ3 : srt Z0 t = 3 := s1.trans n3
            have nZ : nT Z0 = nT z + 1 := by rw [eZ]; rfl
            have z3 : srt Z0 (nT z) = 3 := by rw [eZ]; show (if nT z = nT z then 3 else _) = 3; rw [if_pos rfl]
            have b1N := gR.2.1.1
            refine lv_istore (lv' := [(5, .int (nI (nT z))), (4, .int (nI (one z t))), (0, .ref (mh G)), (1, .int (nI t)), (2, .int (nI mm)), (3, .int (nI lv))]) hx hb dX8_anews_114 hl (by decide) rfl (fun ls hl => ?_)
            refine lv_iload hx hb dX8_anews_116 (lv_at hl 0 rfl) ?_
            refine lv_bipush (v := (-9)) hx hb dX8_anews_118 (by decide) ?_
            refine lv_icmp_ne (tgt := 126) hx hb dX8_anews_120 (by decide) (fun c_10 => ?_) (fun c_10 => absurd c_10 (nI_neg (by decide) (by omega)))
            refine lv_aload_n hx hb dX8_anews_126 rfl (lv_at hl 2 rfl) ?_
            refine m_get (v := .ref (md G 40)) hx hb htu wu_in hown hK hP 40 (by decide) (htu _ U_59) rfl rfl dX8_anews_127 ?_
            refine lv_iload hx hb dX8_anews_130 (lv_at hl 1 rfl) ?_
            refine lv_aload_n hx hb dX8_anews_132 rfl (lv_at hl 2 rfl) ?_
            refine m_get (v := .int (nI lf)) hx hb htu wu_in hown hK hP 42 (by decide) (htu _ U_56) rfl (m_v ((gK 42 (by decide)).1.trans hn)) dX8_anews_133 ?_
            refine m_ast (j := one z t) (x := nI lf) hx hb hK hP hDD hS 24 40 rfl (by omega) (by decide) (mW_a40 _ _ _ _ _) dX8_anews_136 (fun H locs hP hS => ?_)
            refine lv_aload_n hx hb dX8_anews_137 rfl (lv_at hl 2 rfl) ?_
            refine m_get (v := .ref (md G 41)) hx hb htu wu_in hown hK hP 41 (by decide) (htu _ U_115) rfl rfl dX8_anews_138 ?_
            refine lv_iload hx hb dX8_anews_141 (lv_at hl 1 rfl) ?_
            refine lv_iload hx hb dX8_anews_143 (lv_at hl 0 rfl) ?_
            refine m_ast (j := one z t) (x := nI (nT z)) hx hb hK hP hDD hS 25 41 rfl (by omega) (by decide) (mW_a41 _ _ _ _ _) dX8_anews_145 (fun H locs hP hS => ?_)
            refine lv_iconst (v := 0) hx hb dX8_anews_146 (by decide) ?_
            refine lv_istore (lv' := [(6, .int 0), (5, .int (nI (nT z))), (4, .int (nI (one z t))), (0, .ref (mh G)), (1, .int (nI t)), (2, .int (nI mm)), (3, .int (nI lv))]) hx hb dX8_anews_147 hl (by decide) rfl (fun ls hl => ?_)
            refine w_loop (fun j H locs k sl g => ∃ (sd : Nat) (ws : aS) (ixw : Nat → Nat → Nat) (ow : Nat → Int32) (Fw : Nat → Nat → Int32) (ls : Array Slot), sd + j = 2 ∧ cpS (fun s x => cp fu s x 2 mm lv) (nT z) t 0 Z0 = cpS (fun s x => cp fu s x 2 mm lv) (nT z) t sd ws ∧ MR ws ixw ow Fw ∧ Px z ix ixw ∧ Lx Z0 ws ∧ MN lf ws Fw ∧ ow 33 = o 33 ∧ Kq [7, 8, 9, 10, 11, 12, 13, 14, 15, 16, 17, 18, 19, 20, 21, 24, 27, 33, 38, 39, 40, 41] o F (ow, Fw) ∧ HM ws hm fu o F (ow, Fw) ∧ k = 0 ∧ sl = 0 ∧ mP G ow Fw H ∧ va_S (mA G s.heap.size) s.heap H locs ∧ lv_has ls 11 [(6, .int (nI sd)), (0, .ref (mh G)), (1, .int (nI t)), (2, .int (nI mm)), (3, .int (nI lv)), (4, .int (nI (one z t))), (5, .int (nI (nT z)))] ∧ g = F0 m 149 ls []) ?_ ?_ 2 _ _ _ _ _ ⟨0, Z0, ix, o_6, fput (fput F_7 40 (one z t) (nI lf)) 41 (one z t) (nI (nT z)), ls, by omega, rfl, (by rw [eZ]; exact gR), Px.rf, Lx.rf, (hML.new (q := one z t) (fun i => by rw [eZ]; rfl) (by omega) (congrArg (fun f => upd f _ _) (gK 40 (by decide)).2) (congrArg (fun f => upd f _ _) (gK 41 (by decide)).2)), (gK 33 (by decide)).1, (Kq.F (Kq.F (gK.mono (by decide)) (by decide)) (by decide)), (HM.own hh (gK 39 (by decide)).1 (gK 38 (by decide)).2), rfl, rfl, hP, hS, lv_sub hl [0, 3, 4, 5, 6, 2, 1] rfl, rfl⟩
            · intro H locs k sl g hI
              obtain ⟨sd, ws, ixw, ow, Fw, ls, hq0, hq1, hq2, hq3, hq4, hq5, hq6, hq7, hq8, rfl, rfl, hP, hS, hl, rfl⟩ := hI
              refine lv_iload hx hb dX8_anews_149 (lv_at hl 0 rfl) ?_
              refine lv_iconst (v := 2) hx hb dX8_anews_151 (by decide) ?_
              refine lv_icmp_ge (tgt := 253) hx hb dX8_anews_152 (by decide) (fun c_11 => ?_) (fun c_11 => absurd (nI_le (a := 2) (by omega) (by omega)) c_11)
              refine lv_iload hx hb dX8_anews_253 (lv_at hl 6 rfl) ?_
              obtain rfl : sd = 2 := by omega
              have hend : cpS (fun s x => cp fu s x 2 mm lv) (nT z) t 0 Z0 = ws := hq1
              exact m_iret (v := nI (nT z)) hx hb hr hK hP hS (by rw [ce, hend]; exact ⟨⟨⟨ixw, hq2, hq3⟩, hq5, fun _ => ⟨rfl, Nat.lt_of_lt_of_le (by omega) hq4.1⟩, fun h => absurd h0 h, hq8.mono (by omega) id, hq7⟩, hq6⟩) dX8_anews_255 hlocks
            · intro j ih9 H locs k sl g hI
              obtain ⟨sd, ws, ixw, ow, Fw, ls, hq0, hq1, hq2, hq3, hq4, hq5, hq6, hq7, hq8, rfl, rfl, hP, hS, hl, rfl⟩ := hI
              have hsd : sd < 2 := by omega
              have hW : t < nT ws := Nat.lt_of_lt_of_le hZ hq4.1
              obtain ⟨y1, y2, y3, -⟩ := hq4.2.2.1 t hZ
              have hW3 : srt ws t = 3 := y1.trans hZ3
              have hW1 : one ws t = one z t := y3.trans s3
              obtain ⟨gw, gv⟩ := hq2.rw hW hW3 hsd
              rw [hW1] at gw gv
              obtain ⟨L, eL⟩ : ∃ y, y = row ws sd t := ⟨_, rfl⟩
              rw [← eL] at gw
              have hbw : bnd (cpR (fun s x => cp fu s x 2 mm lv) (nT z) sd ws L) ≤ 200000 := by rw [hq1, cpS_s hsd, ← eL] at hb0; exact Nat.le_trans b_cpS hb0
              have hbz2 : bnd ws ≤ 200000 := Nat.le_trans b_vR hbw
              obtain ⟨n1, n2, n3b, n4, n5, n6, n7, n8⟩ := hq2.2.1
              have nW : nT z < nT ws := Nat.lt_of_lt_of_le (by omega) hq4.1
              have w3 : srt ws (nT z) = 3 := (hq4.2.2.1 (nT z) (by omega)).1.trans z3
              refine lv_iload hx hb dX8_anews_149 (lv_at hl 0 rfl) ?_
              refine lv_iconst (v := 2) hx hb dX8_anews_151 (by decide) ?_
              refine lv_icmp_ge (tgt := 253) hx hb dX8_anews_152 (by decide) (fun c_12 => absurd c_12 (nI_ge (b := 2) (by omega) (by omega))) (fun c_12 => ?_)
              refine lv_aload_n hx hb dX8_anews_155 rfl (lv_at hl 1 rfl) ?_
              refine m_get (v := .ref (md G 21)) hx hb htu wu_in hown hK hP 21 (by decide) (htu _ U_116) rfl rfl dX8_anews_156 ?_
              refine lv_iconst (v := 2) hx hb dX8_anews_159 (by decide) ?_
              refine lv_iload hx hb dX8_anews_160 (lv_at hl 5 rfl) ?_
              refine lv_imul hx hb dX8_anews_162 ?_
              refine m_top (y := nI (2 * (one z t))) (pk_mul 2 (one z t)) ?_
              refine lv_iload hx hb dX8_anews_163 (lv_at hl 0 rfl) ?_
              refine lv_iadd hx hb dX8_anews_165 ?_
              refine m_top (y := nI (2 * (one z t) + sd)) (nI_add (2 * (one z t)) sd) ?_
              refine m_ald (j := 2 * (one z t) + sd) (v := nI L.length) hx hb hK hP 18 21 rfl (by omega) (by decide) gw.1 dX8_anews_166 ?_
              refine lv_istore (lv' := [(7, .int (nI L.length)), (6, .int (nI sd)), (0, .ref (mh G)), (1, .int (nI t)), (2, .int (nI mm)), (3, .int (nI lv)), (4, .int (nI (one z t))), (5, .int (nI (nT z)))]) hx hb dX8_anews_167 hl (by decide) rfl (fun ls hl => ?_)
              refine lv_aload_n hx hb dX8_anews_169 rfl (lv_at hl 2 rfl) ?_
              refine m_get (v := .ref (md G 19)) hx hb htu wu_in hown hK hP 19 (by decide) (htu _ U_117) rfl rfl dX8_anews_170 ?_
              refine lv_iconst (v := 2) hx hb dX8_anews_173 (by decide) ?_
              refine lv_iload hx hb dX8_anews_174 (lv_at hl 6 rfl) ?_
              refine lv_imul hx hb dX8_anews_176 ?_
              refine m_top (y := nI (2 * (one z t))) (pk_mul 2 (one z t)) ?_
              refine lv_iload hx hb dX8_anews_177 (lv_at hl 1 rfl) ?_
              refine lv_iadd hx hb dX8_anews_179 ?_
              refine m_top (y := nI (2 * (one z t) + sd)) (nI_add (2 * (one z t)) sd) ?_
              refine m_ald (j := 2 * (one z t) + sd) (v := Fw 19 (2 * (one z t) + sd)) hx hb hK hP 16 19 rfl (by omega) (by decide) rfl dX8_anews_180 ?_
              refine lv_istore (lv' := [(8, .int (Fw 19 (2 * (one z t) + sd))), (7, .int (nI L.length)), (6, .int (nI sd)), (0, .ref (mh G)), (1, .int (nI t)), (2, .int (nI mm)), (3, .int (nI lv)), (4, .int (nI (one z t))), (5, .int (nI (nT z)))]) hx hb dX8_anews_181 hl (by decide) rfl (fun ls hl => ?_)
              refine lv_iconst (v := 0) hx hb dX8_anews_183 (by decide) ?_
              refine lv_istore (lv' := [(9, .int 0), (8, .int (Fw 19 (2 * (one z t) + sd))), (7, .int (nI L.length)), (6, .int (nI sd)), (0, .ref (mh G)), (1, .int (nI t)), (2, .int (nI mm)), (3, .int (nI lv)), (4, .int (nI (one z t))), (5, .int (nI (nT z)))]) hx hb dX8_anews_184 hl (by decide) rfl (fun ls hl => ?_)
              refine w_loop (fun j H locs k sl g => ∃ (i : Nat) (zi : aS) (ix1 : Nat → Nat → Nat) (o1 : Nat → Int32) (F1 : Nat → Nat → Int32) (kv : Int32) (ls : Array Slot), i + j = L.length ∧ cpR (fun s x => cp fu s x 2 mm lv) (nT z) sd ws L = cpR (fun s x => cp fu s x 2 mm lv) (nT z) sd zi (L.drop i) ∧ MR zi ix1 o1 F1 ∧ Px z ix ix1 ∧ Lx ws zi ∧ MN lf zi F1 ∧ o1 33 = o 33 ∧ Kq [7, 8, 9, 10, 11, 12, 13, 14, 15, 16, 17, 18, 19, 20, 21, 24, 27, 33, 38, 39, 40, 41] o F (o1, F1) ∧ HM zi hm fu o F (o1, F1) ∧ (i < L.length → kv = nI (ix1 (2 * one z t + sd) i)) ∧ k = 0 ∧ sl = 0 ∧ mP G o1 F1 H ∧ va_S (mA G s.heap.size) s.heap H locs ∧ lv_has ls 11 [(9, .int (nI i)), (0, .ref (mh G)), (1, .int (nI t)), (2, .int (nI mm)), (3, .int (nI lv)), (4, .int (nI (one z t))), (5, .int (nI (nT z))), (6, .int (nI sd)), (7, .int (nI L.length)), (8, .int kv)] ∧ g = F0 m 186 ls []) ?_ ?_ L.length _ _ _ _ _ ⟨0, ws, ixw, ow, Fw, (Fw 19 (2 * one z t + sd)), ls, by omega, rfl, hq2, hq3, Lx.rf, hq5, hq6, hq7, hq8, (fun h => (gw.2.2.1 h).1), rfl, rfl, hP, hS, lv_sub hl [0, 4, 5, 6, 7, 8, 9, 3, 2, 1] rfl, rfl⟩
              · intro H locs k sl g hI
                obtain ⟨i, zi, ix1, o1, F1, kv, ls, hp0, hp1, hp2, hp3, hp4, hp5, hp6, hp7, hp8, hp9, rfl, rfl, hP, hS, hl, rfl⟩ := hI
                obtain ⟨m1, m2, m3, m4, m5, m6, m7, m8⟩ := hp2.2.1
                have lb : L.length ≤ 200000 := Nat.le_trans gw.2.2.2.1 hbz2
                refine lv_iload hx hb dX8_anews_186 (lv_at hl 0 rfl) ?_
                refine lv_iload hx hb dX8_anews_188 (lv_at hl 8 rfl) ?_
                refine lv_icmp_ge (tgt := 247) hx hb dX8_anews_190 (by decide) (fun c_13 => ?_) (fun c_13 => absurd (nI_le (by omega) (by omega)) c_13)
                refine lv_iinc (v := nI (sd + 1)) (lv' := [(6, .int (nI (sd + 1))), (9, .int (nI i)), (0, .ref (mh G)), (1, .int (nI t)), (2, .int (nI mm)), (3, .int (nI lv)), (4, .int (nI (one z t))), (5, .int (nI (nT z))), (7, .int (nI L.length)), (8, .int kv)]) hx hb dX8_anews_247 hl (k := 7) rfl (nI_1 sd) (by decide) rfl (fun ls hl => ?_)
                refine lv_goto (tgt := 149) hx hb dX8_anews_250 (by decide) ?_
                have hend : cpR (fun s x => cp fu s x 2 mm lv) (nT z) sd ws L = zi := by rw [hp1, List.drop_eq_nil_of_le (by omega)]; rfl
                exact ih9 _ _ _ _ _ ⟨sd + 1, zi, ix1, o1, F1, ls, by omega, (hq1.trans ((cpS_s hsd).trans (by rw [← eL, hend]))), hp2, hp3, (hq4.tr hp4), hp5, hp6, hp7, hp8, rfl, rfl, hP, hS, lv_sub hl [0, 2, 3, 4, 5, 6, 7] rfl, rfl⟩
              · intro j ih8 H locs k sl g hI
                obtain ⟨i, zi, ix1, o1, F1, kv, ls, hp0, hp1, hp2, hp3, hp4, hp5, hp6, hp7, hp8, hp9, rfl, rfl, hP, hS, hl, rfl⟩ := hI
                obtain ⟨m1, m2, m3, m4, m5, m6, m7, m8⟩ := hp2.2.1
                have lb : L.length ≤ 200000 := Nat.le_trans gw.2.2.2.1 hbz2
                have ni : i < L.length := by omega
                refine lv_iload hx hb dX8_anews_186 (lv_at hl 0 rfl) ?_
                refine lv_iload hx hb dX8_anews_188 (lv_at hl 8 rfl) ?_
                refine lv_icmp_ge (tgt := 247) hx hb dX8_anews_190 (by decide) (fun c_14 => absurd c_14 (nI_ge ni (by omega))) (fun c_14 => ?_)
                refine lv_aload_n hx hb dX8_anews_193 rfl (lv_at hl 1 rfl) ?_
                refine m_get (v := .int (sc (sto zi))) hx hb htu wu_in hown hK hP 27 (by decide) (htu _ U_45) rfl (m_v hp2.1.2.2.2.2.1) dX8_anews_194 ?_
                refine lv_if_ne (tgt := 247) hx hb dX8_anews_197 (by decide) (fun c_15 => ?_) (fun c_15 => ?_)
                · skip
                  refine lv_iinc (v := nI (sd + 1)) (lv' := [(6, .int (nI (sd + 1))), (9, .int (nI i)), (0, .ref (mh G)), (1, .int (nI t)), (2, .int (nI mm)), (3, .int (nI lv)), (4, .int (nI (one z t))), (5, .int (nI (nT z))), (7, .int (nI L.length)), (8, .int kv)]) hx hb dX8_anews_247 hl (k := 7) rfl (nI_1 sd) (by decide) rfl (fun ls hl => ?_)
                  refine lv_goto (tgt := 149) hx hb dX8_anews_250 (by decide) ?_
                  have hend : cpR (fun s x => cp fu s x 2 mm lv) (nT z) sd ws L = zi := by rw [hp1, cpR_stop (fun h => c_15 (sc_0.mpr h))]
                  exact ih9 _ _ _ _ _ ⟨sd + 1, zi, ix1, o1, F1, ls, by omega, (hq1.trans ((cpS_s hsd).trans (by rw [← eL, hend]))), hp2, hp3, (hq4.tr hp4), hp5, hp6, hp7, hp8, rfl, rfl, hP, hS, lv_sub hl [0, 2, 3, 4, 5, 6, 7] rfl, rfl⟩
                · skip
                  have g0 : sto zi = 0 := sc_0.mp c_15
                  obtain rfl := hp9 ni
                  obtain ⟨l1, l2, l3, l4, l5, l6, l7, l8⟩ := hp2.pl hp4 hW hW3 hsd (by rw [← eL]; exact ni)
                  rw [hW1, ← eL] at l3
                  rw [hW1] at l2
                  rw [← eL] at l4
                  rw [hW1] at l7
                  have hst := hp1.trans (cpR_step (f := (fun s x => cp fu s x 2 mm lv)) (n := nT z) (sd := sd) ni g0)
                  have hbs := hbw
                  rw [hst] at hbs
                  have hbs := Nat.le_trans b_vR hbs
                  have x9 := x_cp fu zi (L.getD i 0) 2 mm lv
                  have hbi : bnd (cp fu zi (L.getD i 0) 2 mm lv).1 ≤ 200000 := Nat.le_trans (b_ite _ _ _) hbs
                  refine lv_aload_n hx hb dX8_anews_200 rfl (lv_at hl 1 rfl) ?_
                  refine lv_aload_n hx hb dX8_anews_201 rfl (lv_at hl 1 rfl) ?_
                  refine m_get (v := .ref (md G 17)) hx hb htu wu_in hown hK hP 17 (by decide) (htu _ U_118) rfl rfl dX8_anews_202 ?_
                  refine lv_iload hx hb dX8_anews_205 (lv_at hl 9 rfl) ?_
                  refine m_ald (j := ix1 (2 * one z t + sd) i) (v := nI (L.getD i 0)) hx hb hK hP 14 17 rfl (by omega) (by decide) l3 dX8_anews_207 ?_
                  refine lv_iload_n hx hb dX8_anews_208 rfl (lv_at hl 3 rfl) ?_
                  refine lv_iload_n hx hb dX8_anews_209 rfl (lv_at hl 4 rfl) ?_
                  refine m_ci (m_runV (As := [.int (nI (L.getD i 0)), .int (nI mm), .int (nI lv)]) (rest := []) ⟨hx, hb, hml, hown, htu⟩ (ih l G hDD o1 F1 zi ix1 lf (L.getD i 0) lv mm hm (nI (L.getD i 0)) hp2 hp5 hlf hw2 (((hp7 42 (by decide)).1.trans hn)) hmm (((hp8.1 g0).trans hh)) hbi ((hp6.trans hd)) ((by omega)) ((fun _ => by omega)) ((by omega)) ((fun _ => ⟨rfl, l4⟩)) H.size) (cwV 3 htu gU_X8_anew rfl rfl rfl (by decide +kernel) ⟨show (3 * fu + 6) + 1 ≤ 3 * fu + 8 by omega, show 8 + (5 + 11) + (82 * fu + 200) ≤ 82 * fu + 252 by omega⟩) hP hK rfl hl.1 rfl (lv_room (Nat.le_of_ble_eq_true rfl)) dX8_anews_210) hS (fun r_16 o_17 F_18 H locs hw_19 hP hS => ?_)
                  try dsimp only at hw_19
                  obtain ⟨⟨⟨ix3, hR2, hP2⟩, hM2, hv2, hs2, hH2, hK2⟩, hd2⟩ := hw_19
                  have q3 : ix3 (2 * one z t + sd) i = ix1 (2 * one z t + sd) i := by have := hP2.at hp2 l5 l6 hsd l1; rw [l7] at this; exact this
                  generalize cp fu zi (L.getD i 0) 2 mm lv = Z1 at hst hbs hbi hR2 hM2 hv2 hH2 x9
                  refine lv_istore (lv' := [(10, .int r_16), (9, .int (nI i)), (0, .ref (mh G)), (1, .int (nI t)), (2, .int (nI mm)), (3, .int (nI lv)), (4, .int (nI (one z t))), (5, .int (nI (nT z))), (6, .int (nI sd)), (7, .int (nI L.length)), (8, .int (nI (ix1 (2 * one z t + sd) i)))]) hx hb dX8_anews_213 hl (by decide) rfl (fun ls hl => ?_)
                  refine lv_aload_n hx hb dX8_anews_215 rfl (lv_at hl 2 rfl) ?_
                  refine m_get (v := .int (sc (sto Z1.1))) hx hb htu wu_in hown hK hP 27 (by decide) (htu _ U_45) rfl (m_v hR2.1.2.2.2.2.1) dX8_anews_216 ?_
                  refine lv_if_ne (tgt := 232) hx hb dX8_anews_219 (by decide) (fun c_20 => ?_) (fun c_20 => ?_)
                  · skip
                    have hz : sto Z1.1 ≠ 0 := fun h => c_20 (sc_0.mpr h)
                    rw [if_neg hz] at hst
                    refine lv_aload_n hx hb dX8_anews_232 rfl (lv_at hl 2 rfl) ?_
                    refine m_get (v := .ref (md G 18)) hx hb htu wu_in hown hK hP 18 (by decide) (htu _ U_119) rfl rfl dX8_anews_233 ?_
                    refine lv_iload hx hb dX8_anews_236 (lv_at hl 10 rfl) ?_
                    refine m_ald (j := ix1 (2 * one z t + sd) i) (v := F_18 18 (ix1 (2 * one z t + sd) i)) hx hb hK hP 15 18 rfl (by omega) (by decide) rfl dX8_anews_238 ?_
                    refine lv_istore (lv' := [(8, .int (F_18 18 (ix1 (2 * one z t + sd) i))), (10, .int r_16), (9, .int (nI i)), (0, .ref (mh G)), (1, .int (nI t)), (2, .int (nI mm)), (3, .int (nI lv)), (4, .int (nI (one z t))), (5, .int (nI (nT z))), (6, .int (nI sd)), (7, .int (nI L.length))]) hx hb dX8_anews_239 hl (by decide) rfl (fun ls hl => ?_)
                    refine lv_iinc (v := nI (i + 1)) (lv' := [(9, .int (nI (i + 1))), (8, .int (F_18 18 (ix1 (2 * one z t + sd) i))), (10, .int r_16), (0, .ref (mh G)), (1, .int (nI t)), (2, .int (nI mm)), (3, .int (nI lv)), (4, .int (nI (one z t))), (5, .int (nI (nT z))), (6, .int (nI sd)), (7, .int (nI L.length))]) hx hb dX8_anews_241 hl (k := 2) rfl (nI_1 i) (by decide) rfl (fun ls hl => ?_)
                    refine lv_goto (tgt := 186) hx hb dX8_anews_244 (by decide) ?_
                    exact ih8 _ _ _ _ _ ⟨i + 1, Z1.1, ix3, o_17, F_18, (F_18 18 (ix1 (2 * one z t + sd) i)), ls, by omega, hst, hR2, (Px.tr hR hp3 (xZ.tr (hq4.tr hp4)) hP2), (hp4.tr x9), hM2, (hd2.trans hp6), (Kq.tr hp7 hK2), (HM.tr hp8 hh (h1 := hm) (fun _ => rfl) hH2 (fun h => absurd g0 h) (fun _ => g0)), (fun h => by have h6 := (hR2.pl (hp4.tr x9) hW hW3 hsd (i := i) (by rw [← eL]; exact ni)).2.2.2.2.2.2.2 (by rw [← eL]; exact h); rw [hW1, q3] at h6; exact h6), rfl, rfl, hP, hS, lv_sub hl [0, 3, 4, 5, 6, 7, 8, 9, 10, 1] rfl, rfl⟩
                  · skip
                    have hz : sto Z1.1 = 0 := sc_0.mp c_20
                    obtain ⟨rfl, hv3⟩ := hv2 hz
                    rw [if_pos hz] at hst hbs
                    rw [b_bind] at hbs
                    have x8 := hp4.tr x9
                    have hn9 : nT z < nT Z1.1 := Nat.lt_of_lt_of_le nW x8.1
                    refine lv_aload_n hx hb dX8_anews_222 rfl (lv_at hl 2 rfl) ?_
                    refine lv_iload hx hb dX8_anews_223 (lv_at hl 7 rfl) ?_
                    refine lv_iload hx hb dX8_anews_225 (lv_at hl 8 rfl) ?_
                    refine lv_iload hx hb dX8_anews_227 (lv_at hl 0 rfl) ?_
                    refine m_cv (m_runV (As := [.int (nI (nT z)), .int (nI sd), .int (nI Z1.2)]) (rest := []) ⟨hx, hb, hml, hown, htu⟩ (m_bind l G hDD o_17 F_18 Z1.1 ix3 (nT z) sd Z1.2 hR2 hn9 (((x8.2.2.1 (nT z) nW).1.trans w3)) hsd hv3 ((by omega)) H.size) (cwV 3 htu gU_X8_bind rfl rfl rfl (by decide +kernel) ⟨show 0 + 1 ≤ 3 * fu + 8 by omega, show 8 + (5 + 11) + 0 ≤ 82 * fu + 252 by omega⟩) hP hK rfl hl.1 rfl (lv_room (Nat.le_of_ble_eq_true rfl)) dX8_anews_229) hS (fun o_22 F_23 H locs hw_24 hP hS => ?_)
                    try dsimp only at hw_24
                    obtain ⟨⟨ix4, hR4, hP4⟩, hK4⟩ := hw_24
                    have x7 := x_bind Z1.1 (nT z) sd Z1.2 hsd
                    have q4 : ix4 (2 * one z t + sd) i = ix3 (2 * one z t + sd) i := by obtain ⟨k1, k2, k3, k4, k5, k6, k7, k8⟩ := hR2.pl x9 l5 l6 hsd l1; have := hP4.at hR2 k5 k6 hsd k1; rw [k7, l7] at this; exact this
                    refine lv_aload_n hx hb dX8_anews_232 rfl (lv_at hl 2 rfl) ?_
                    refine m_get (v := .ref (md G 18)) hx hb htu wu_in hown hK hP 18 (by decide) (htu _ U_119) rfl rfl dX8_anews_233 ?_
                    refine lv_iload hx hb dX8_anews_236 (lv_at hl 10 rfl) ?_
                    refine m_ald (j := ix1 (2 * one z t + sd) i) (v := F_23 18 (ix1 (2 * one z t + sd) i)) hx hb hK hP 15 18 rfl (by omega) (by decide) rfl dX8_anews_238 ?_
                    refine lv_istore (lv' := [(8, .int (F_23 18 (ix1 (2 * one z t + sd) i))), (10, .int (nI Z1.2)), (9, .int (nI i)), (0, .ref (mh G)), (1, .int (nI t)), (2, .int (nI mm)), (3, .int (nI lv)), (4, .int (nI (one z t))), (5, .int (nI (nT z))), (6, .int (nI sd)), (7, .int (nI L.length))]) hx hb dX8_anews_239 hl (by decide) rfl (fun ls hl => ?_)
                    refine lv_iinc (v := nI (i + 1)) (lv' := [(9, .int (nI (i + 1))), (8, .int (F_23 18 (ix1 (2 * one z t + sd) i))), (10, .int (nI Z1.2)), (0, .ref (mh G)), (1, .int (nI t)), (2, .int (nI mm)), (3, .int (nI lv)), (4, .int (nI (one z t))), (5, .int (nI (nT z))), (6, .int (nI sd)), (7, .int (nI L.length))]) hx hb dX8_anews_241 hl (k := 2) rfl (nI_1 i) (by decide) rfl (fun ls hl => ?_)
                    refine lv_goto (tgt := 186) hx hb dX8_anews_244 (by decide) ?_
                    exact ih8 _ _ _ _ _ ⟨i + 1, (bind Z1.1 (nT z) sd Z1.2), ix4, o_22, F_23, (F_23 18 (ix1 (2 * one z t + sd) i)), ls, by omega, hst, hR4, (Px.tr hR (Px.tr hR hp3 (xZ.tr (hq4.tr hp4)) hP2) (xZ.tr (hq4.tr x8)) hP4), (x8.tr x7), (hM2.to (me_bind _ _ _ _) (Nat.le_refl _) (hK4 40 (by decide)).2 (hK4 41 (by decide)).2), (((hK4 33 (by decide)).1.trans hd2).trans hp6), (Kq.tr (Kq.tr hp7 hK2) (hK4.mono (by decide))), (HM.next (HM.tr hp8 hh (h1 := hm) (fun _ => rfl) hH2 (fun h => absurd g0 h) (fun _ => g0)) (hK4 39 (by decide)).1 (hK4 38 (by decide)).2 (Nat.le_refl _) (fun h => hz)), (fun h => by have h6 := (hR4.pl (x8.tr x7) hW hW3 hsd (i := i) (by rw [← eL]; exact ni)).2.2.2.2.2.2.2 (by rw [← eL]; exact h); rw [hW1, q4, q3] at h6; exact h6), rfl, rfl, hP, hS, lv_sub hl [0, 3, 4, 5, 6, 7, 8, 9, 10, 1] rfl, rfl⟩
        · skip
          have mf := (hML (one z t) (by omega)).2 hm0
          refine lv_aload_n hx hb dX8_anews_87 rfl (lv_at hl 1 rfl) ?_
          refine m_get (v := .ref (md G 40)) hx hb htu wu_in hown hK hP 40 (by decide) (htu _ U_59) rfl rfl dX8_anews_88 ?_
          refine lv_iload hx hb dX8_anews_91 (lv_at hl 0 rfl) ?_
          refine m_ald (j := one z t) (v := nI lf) hx hb hK hP 24 40 rfl (by omega) (by decide) mf.1 dX8_anews_93 ?_
          refine lv_aload_n hx hb dX8_anews_94 rfl (lv_at hl 1 rfl) ?_
          refine m_get (v := .int (nI lf)) hx hb htu wu_in hown hK hP 42 (by decide) (htu _ U_56) rfl (m_v hn) dX8_anews_95 ?_
          refine lv_icmp_ne (tgt := 109) hx hb dX8_anews_98 (by decide) (fun c_25 => absurd rfl c_25) (fun c_25 => ?_)
          refine lv_aload_n hx hb dX8_anews_101 rfl (lv_at hl 1 rfl) ?_
          refine m_get (v := .ref (md G 41)) hx hb htu wu_in hown hK hP 41 (by decide) (htu _ U_115) rfl rfl dX8_anews_102 ?_
          refine lv_iload hx hb dX8_anews_105 (lv_at hl 0 rfl) ?_
          refine m_ald (j := one z t) (v := nI (memo z (2 * one z t) - 1)) hx hb hK hP 25 41 rfl (by omega) (by decide) mf.2.1 dX8_anews_107 ?_
          exact m_iret (v := nI (memo z (2 * one z t) - 1)) hx hb hr hK hP hS (by rw [cp_me h0 nl n3 (show memo z (mkey z t 2) ≠ 0 from hm0), show mkey z t 2 = 2 * one z t from rfl]; exact ⟨⟨⟨ix, hR, Px.rf⟩, hML, fun _ => ⟨rfl, by have := mf.2.2; show memo z _ - 1 < nT z; omega⟩, fun _ => rfl, HM.rf hh, Kq.rf⟩, rfl⟩) dX8_anews_108 hlocks
      · skip
        have nc_3 : srt z t = 2 := (nI_eq (a := srt z t) (b := 2) (by omega) (by omega)).mp c_3
        have nl : ¬ lev z t ≤ mm := by omega
        have ce := cp_rc (k := fu) (way := 2) (ab := mm) (lv := lv) h0 nl nc_3
        refine lv_aload_n hx hb dX8_anews_69 rfl (lv_at hl 0 rfl) ?_
        refine lv_iload_n hx hb dX8_anews_70 rfl (lv_at hl 1 rfl) ?_
        refine lv_iload_n hx hb dX8_anews_71 rfl (lv_at hl 3 rfl) ?_
        refine lv_iload_n hx hb dX8_anews_72 rfl (lv_at hl 2 rfl) ?_
        refine lv_iconst (v := 0) hx hb dX8_anews_73 (by decide) ?_
        refine lv_iconst (v := 1) hx hb dX8_anews_74 (by decide) ?_
        refine m_ci (m_runV (As := [.int (nI t), .int (nI lv), .int (nI mm), .int 0, .int 1]) (rest := []) ⟨hx, hb, hml, hown, htu⟩ (m_ofPartsA l G hDD o F fu z ix lf t lv mm hm ih hR hML hlf hw2 hn hmm hh ((by rw [ce, b_mkR] at hb0; exact hb0)) hd hfu hh2 h0 ht ((by assumption)) H.size) (cwV 5 htu gU_X8_ofParts rfl rfl rfl (by decide +kernel) ⟨show (3 * fu + 7) + 1 ≤ 3 * fu + 8 by omega, show 8 + (8 + 11) + (82 * fu + 225) ≤ 82 * fu + 252 by omega⟩) hP hK rfl hl.1 rfl (lv_room (Nat.le_of_ble_eq_true rfl)) dX8_anews_75) hS (fun r_26 o_27 F_28 H locs hw_29 hP hS => ?_)
        try dsimp only at hw_29
        exact m_iret (v := r_26) hx hb hr hK hP hS (by rw [ce]; exact hw_29) dX8_anews_78 hlocks
    · skip
      have nc_2 : srt z t = 1 := (nI_eq (a := srt z t) (b := 1) (by omega) (by omega)).mp c_2
      have nl : ¬ lev z t ≤ mm := by omega
      have ha := hR.2.2.2.1 t ht nc_2
      have ce := cp_fn (k := fu) (way := 2) (ab := mm) (lv := lv) h0 nl nc_2
      rw [show otw 2 = 2 from rfl] at ce
      obtain ⟨Z1, eZ1⟩ : ∃ y, y = cp fu z (one z t) 2 mm lv := ⟨_, rfl⟩
      rw [← eZ1] at ce
      obtain ⟨Z2, eZ2⟩ : ∃ y, y = cp fu Z1.1 (two z t) 2 mm lv := ⟨_, rfl⟩
      rw [← eZ2] at ce
      have hb2 : bnd Z2.1 ≤ 200000 := by rw [ce, b_mkA] at hb0; exact hb0
      have hb1 : bnd Z1.1 ≤ 200000 := Nat.le_trans (by rw [eZ2]; exact b_cp _ _ _ _ _ _) hb2
      have x1 : Lx z Z1.1 := by rw [eZ1]; exact x_cp _ _ _ _ _ _
      have x2 : Lx Z1.1 Z2.1 := by rw [eZ2]; exact x_cp _ _ _ _ _ _
      have z1 : sto Z1.1 = 0 → sto z = 0 := fun _ => h0
      have z2 : sto Z2.1 = 0 → sto Z1.1 = 0 := fun h => by rw [eZ2] at h; exact cp_sto h
      refine lv_aload_n hx hb dX8_anews_22 rfl (lv_at hl 0 rfl) ?_
      refine lv_aload_n hx hb dX8_anews_23 rfl (lv_at hl 0 rfl) ?_
      refine m_get (v := .ref (md G 10)) hx hb htu wu_in hown hK hP 10 (by decide) (htu _ U_80) rfl rfl dX8_anews_24 ?_
      refine lv_iload_n hx hb dX8_anews_27 rfl (lv_at hl 1 rfl) ?_
      refine m_ald (j := t) (v := nI (one z t)) hx hb hK hP 9 10 rfl (by omega) (by decide) ha.1 dX8_anews_28 ?_
      refine lv_iload_n hx hb dX8_anews_29 rfl (lv_at hl 2 rfl) ?_
      refine lv_iload_n hx hb dX8_anews_30 rfl (lv_at hl 3 rfl) ?_
      refine m_ci (m_runV (As := [.int (nI (one z t)), .int (nI mm), .int (nI lv)]) (rest := []) ⟨hx, hb, hml, hown, htu⟩ (ih l G hDD o F z ix lf (one z t) lv mm hm (nI (one z t)) hR hML hlf hw2 hn hmm hh ((by rw [← eZ1]; exact hb1)) hd ((by omega)) ((fun _ => by omega)) ((by omega)) ((fun _ => ⟨rfl, ha.2.2.1⟩)) H.size) (cwV 3 htu gU_X8_anew rfl rfl rfl (by decide +kernel) ⟨show (3 * fu + 6) + 1 ≤ 3 * fu + 8 by omega, show 8 + (5 + 11) + (82 * fu + 200) ≤ 82 * fu + 252 by omega⟩) hP hK rfl hl.1 rfl (lv_room (Nat.le_of_ble_eq_true rfl)) dX8_anews_31) hS (fun r_30 o_31 F_32 H locs hw_33 hP hS => ?_)
      try dsimp only at hw_33
      rw [← eZ1] at hw_33
      obtain ⟨⟨⟨ix1, hR1, hP1⟩, hM1, hv1, hs1, hH1, hK1⟩, hd1⟩ := hw_33
      obtain ⟨hm1, hh1, he1, hx1⟩ := hH1.at hh (by omega)
      have ha1 := hR1.2.2.2.1 t (Nat.lt_of_lt_of_le ht x1.1) ((x1.2.2.1 t ht).1.trans (by assumption))
      rw [(x1.2.2.1 t ht).2.2.2.1] at ha1
      refine lv_istore (lv' := [(4, .int r_30), (0, .ref (mh G)), (1, .int (nI t)), (2, .int (nI mm)), (3, .int (nI lv))]) hx hb dX8_anews_34 hl (by decide) rfl (fun ls hl => ?_)
      refine lv_aload_n hx hb dX8_anews_36 rfl (lv_at hl 1 rfl) ?_
      refine lv_aload_n hx hb dX8_anews_37 rfl (lv_at hl 1 rfl) ?_
      refine m_get (v := .ref (md G 11)) hx hb htu wu_in hown hK hP 11 (by decide) (htu _ U_114) rfl rfl dX8_anews_38 ?_
      refine lv_iload_n hx hb dX8_anews_41 rfl (lv_at hl 2 rfl) ?_
      refine m_ald (j := t) (v := nI (two z t)) hx hb hK hP 10 11 rfl (by omega) (by decide) ha1.2.1 dX8_anews_42 ?_
      refine lv_iload_n hx hb dX8_anews_43 rfl (lv_at hl 3 rfl) ?_
      refine lv_iload_n hx hb dX8_anews_44 rfl (lv_at hl 4 rfl) ?_
      refine m_ci (m_runV (As := [.int (nI (two z t)), .int (nI mm), .int (nI lv)]) (rest := []) ⟨hx, hb, hml, hown, htu⟩ (ih l G hDD o_31 F_32 Z1.1 ix1 lf (two z t) lv mm hm1 (nI (two z t)) hR1 hM1 hlf hw2 (((hK1 42 (by decide)).1.trans hn)) hmm hh1 ((by rw [← eZ2]; exact hb2)) ((hd1.trans hd)) ((by omega)) ((fun h => by have := he1 h; omega)) ((by omega)) ((fun _ => ⟨rfl, ha1.2.2.2⟩)) H.size) (cwV 3 htu gU_X8_anew rfl rfl rfl (by decide +kernel) ⟨show (3 * fu + 6) + 1 ≤ 3 * fu + 8 by omega, show 8 + (5 + 11) + (82 * fu + 200) ≤ 82 * fu + 252 by omega⟩) hP hK rfl hl.1 rfl (lv_room (Nat.le_of_ble_eq_true rfl)) dX8_anews_45) hS (fun r_34 o_35 F_36 H locs hw_37 hP hS => ?_)
      try dsimp only at hw_37
      rw [← eZ2] at hw_37
      obtain ⟨⟨⟨ix2, hR2, hP2⟩, hM2, hv2, hs2, hH2, hK2⟩, hd2⟩ := hw_37
      refine lv_istore (lv' := [(5, .int r_34), (4, .int r_30), (0, .ref (mh G)), (1, .int (nI t)), (2, .int (nI mm)), (3, .int (nI lv))]) hx hb dX8_anews_48 hl (by decide) rfl (fun ls hl => ?_)
      refine lv_aload_n hx hb dX8_anews_50 rfl (lv_at hl 2 rfl) ?_
      refine lv_iload hx hb dX8_anews_51 (lv_at hl 1 rfl) ?_
      refine lv_iload hx hb dX8_anews_53 (lv_at hl 0 rfl) ?_
      refine m_ci (m_runV (As := [.int r_30, .int r_34]) (rest := []) ⟨hx, hb, hml, hown, htu⟩ (m_arrow l G hDD o_35 F_36 Z2.1 ix2 Z1.2 Z2.2 r_30 r_34 hR2 ((fun h => ⟨(hv1 (z2 h)).1, (hv2 h).1, Nat.lt_of_lt_of_le (hv1 (z2 h)).2 x2.1, (hv2 h).2⟩)) H.size) (cwV 2 htu gU_X8_arrow rfl rfl rfl (by decide +kernel) ⟨show 2 + 1 ≤ 3 * fu + 8 by omega, show 8 + (4 + 11) + 44 ≤ 82 * fu + 252 by omega⟩) hP hK rfl hl.1 rfl (lv_room (Nat.le_of_ble_eq_true rfl)) dX8_anews_55) hS (fun r_38 o_39 F_40 H locs hw_41 hP hS => ?_)
      try dsimp only at hw_41
      exact m_iret (v := r_38) hx hb hr hK hP hS (by rw [ce]; exact ⟨⟨⟨ix2, hw_41.2.1, Px.tr hR hP1 x1 hP2⟩, hM2.to (me_mkA _ _ _) (x_mkA _ _ _).1 (hw_41.2.2 40 (by decide)).2 (hw_41.2.2 41 (by decide)).2, hw_41.1, fun h => absurd h0 h, HM.next (HM.tr hH1 hh he1 hH2 hs2 z2) (hw_41.2.2 39 (by decide)).1 (hw_41.2.2 38 (by decide)).2 (by omega) mkA_sto, Kq.tr (Kq.tr hK1 hK2) (hw_41.2.2.mono (by decide))⟩, ((hw_41.2.2 33 (by decide)).1.trans hd2).trans hd1⟩) dX8_anews_58 hlocks
  · skip
    have nc_1 : ¬ mm < lev z t := fun h9 => c_1 ((nI_ltI (a := mm) (b := lev z t) (by omega) (by omega)).mpr h9)
    refine lv_iload_n hx hb dX8_anews_10 rfl (lv_at hl 1 rfl) ?_
    exact m_iret (v := nI t) hx hb hr hK hP hS (by rw [cp_le h0 (show lev z t ≤ mm by omega)]; exact ⟨⟨⟨ix, hR, Px.rf⟩, hML, fun _ => ⟨rfl, ht⟩, fun _ => rfl, HM.rf hh, Kq.rf⟩, rfl⟩) dX8_anews_11 hlocks

