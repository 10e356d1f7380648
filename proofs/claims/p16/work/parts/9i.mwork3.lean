theorem dX8_work_0 : decode cX8_work 0 = .ok (.aload_n 0, 1) := by decide +kernel
theorem dX8_work_1 : decode cX8_work 1 = .ok (.iload_n 1, 1) := by decide +kernel
theorem dX8_work_2 : decode cX8_work 2 = .ok (.invokevirtual 144, 3) := by decide +kernel
theorem dX8_work_5 : decode cX8_work 5 = .ok (.ifCond .eq 14, 3) := by decide +kernel
theorem dX8_work_8 : decode cX8_work 8 = .ok (.iload_n 2, 1) := by decide +kernel
theorem dX8_work_9 : decode cX8_work 9 = .ok (.iconst 0, 1) := by decide +kernel
theorem dX8_work_10 : decode cX8_work 10 = .ok (.sipush 300, 3) := by decide +kernel
theorem dX8_work_13 : decode cX8_work 13 = .ok (.invokestatic 140, 3) := by decide +kernel
theorem dX8_work_16 : decode cX8_work 16 = .ok (.ifCond .ne 5, 3) := by decide +kernel
theorem dX8_work_21 : decode cX8_work 21 = .ok (.aload_n 0, 1) := by decide +kernel
theorem dX8_work_22 : decode cX8_work 22 = .ok (.iconst 0, 1) := by decide +kernel
theorem dX8_work_23 : decode cX8_work 23 = .ok (.putfield 325, 3) := by decide +kernel
theorem dX8_work_26 : decode cX8_work 26 = .ok (.aload_n 0, 1) := by decide +kernel
theorem dX8_work_27 : decode cX8_work 27 = .ok (.iconst 0, 1) := by decide +kernel
theorem dX8_work_28 : decode cX8_work 28 = .ok (.putfield 328, 3) := by decide +kernel
theorem dX8_work_31 : decode cX8_work 31 = .ok (.aload_n 0, 1) := by decide +kernel
theorem dX8_work_32 : decode cX8_work 32 = .ok (.iconst 0, 1) := by decide +kernel
theorem dX8_work_33 : decode cX8_work 33 = .ok (.putfield 334, 3) := by decide +kernel
theorem dX8_work_36 : decode cX8_work 36 = .ok (.aload_n 0, 1) := by decide +kernel
theorem dX8_work_37 : decode cX8_work 37 = .ok (.iload_n 2, 1) := by decide +kernel
theorem dX8_work_38 : decode cX8_work 38 = .ok (.putfield 337, 3) := by decide +kernel
theorem dX8_work_41 : decode cX8_work 41 = .ok (.aload_n 0, 1) := by decide +kernel
theorem dX8_work_42 : decode cX8_work 42 = .ok (.iconst 0, 1) := by decide +kernel
theorem dX8_work_43 : decode cX8_work 43 = .ok (.putfield 340, 3) := by decide +kernel
theorem dX8_work_46 : decode cX8_work 46 = .ok (.aload_n 0, 1) := by decide +kernel
theorem dX8_work_47 : decode cX8_work 47 = .ok (.iconst 1, 1) := by decide +kernel
theorem dX8_work_48 : decode cX8_work 48 = .ok (.putfield 331, 3) := by decide +kernel
theorem dX8_work_51 : decode cX8_work 51 = .ok (.aload_n 0, 1) := by decide +kernel
theorem dX8_work_52 : decode cX8_work 52 = .ok (.iconst 0, 1) := by decide +kernel
theorem dX8_work_53 : decode cX8_work 53 = .ok (.putfield 131, 3) := by decide +kernel
theorem dX8_work_56 : decode cX8_work 56 = .ok (.aload_n 0, 1) := by decide +kernel
theorem dX8_work_57 : decode cX8_work 57 = .ok (.bipush (-9), 2) := by decide +kernel
theorem dX8_work_59 : decode cX8_work 59 = .ok (.putfield 134, 3) := by decide +kernel
theorem dX8_work_62 : decode cX8_work 62 = .ok (.aload_n 0, 1) := by decide +kernel
theorem dX8_work_63 : decode cX8_work 63 = .ok (.aload_n 0, 1) := by decide +kernel
theorem dX8_work_64 : decode cX8_work 64 = .ok (.iload_n 1, 1) := by decide +kernel
theorem dX8_work_65 : decode cX8_work 65 = .ok (.bipush (-9), 2) := by decide +kernel
theorem dX8_work_67 : decode cX8_work 67 = .ok (.invokevirtual 355, 3) := by decide +kernel
theorem dX8_work_70 : decode cX8_work 70 = .ok (.putfield 361, 3) := by decide +kernel
theorem dX8_work_73 : decode cX8_work 73 = .ok (.aload_n 0, 1) := by decide +kernel
theorem dX8_work_74 : decode cX8_work 74 = .ok (.getfield 131, 3) := by decide +kernel
theorem dX8_work_77 : decode cX8_work 77 = .ok (.ireturn, 1) := by decide +kernel
theorem dX8_work_19 : decode cX8_work 19 = .ok (.iconst (-1), 1) := by decide +kernel
theorem dX8_work_20 : decode cX8_work 20 = .ok (.ireturn, 1) := by decide +kernel
theorem dX8_tellValue_0 : decode cX8_tellValue 0 = .ok (.aload_n 0, 1) := by decide +kernel
theorem dX8_tellValue_1 : decode cX8_tellValue 1 = .ok (.getfield 298, 3) := by decide +kernel
theorem dX8_tellValue_4 : decode cX8_tellValue 4 = .ok (.aload_n 0, 1) := by decide +kernel
theorem dX8_tellValue_5 : decode cX8_tellValue 5 = .ok (.getfield 301, 3) := by decide +kernel
theorem dX8_tellValue_8 : decode cX8_tellValue 8 = .ok (.if_icmp .ne 4, 3) := by decide +kernel
theorem dX8_tellValue_11 : decode cX8_tellValue 11 = .ok (.return_, 1) := by decide +kernel
theorem dX8_tellValue_12 : decode cX8_tellValue 12 = .ok (.aload_n 0, 1) := by decide +kernel
theorem dX8_tellValue_13 : decode cX8_tellValue 13 = .ok (.getfield 103, 3) := by decide +kernel
theorem dX8_tellValue_16 : decode cX8_tellValue 16 = .ok (.iload_n 1, 1) := by decide +kernel
theorem dX8_tellValue_17 : decode cX8_tellValue 17 = .ok (.iaload, 1) := by decide +kernel
theorem dX8_tellValue_18 : decode cX8_tellValue 18 = .ok (.tableswitch 72 0 2 #[26, 39, 63], 26) := by decide +kernel
theorem dX8_tellValue_44 : decode cX8_tellValue 44 = .ok (.aload_n 0, 1) := by decide +kernel
theorem dX8_tellValue_45 : decode cX8_tellValue 45 = .ok (.aload_n 0, 1) := by decide +kernel
theorem dX8_tellValue_46 : decode cX8_tellValue 46 = .ok (.getfield 106, 3) := by decide +kernel
theorem dX8_tellValue_49 : decode cX8_tellValue 49 = .ok (.iload_n 1, 1) := by decide +kernel
theorem dX8_tellValue_50 : decode cX8_tellValue 50 = .ok (.iaload, 1) := by decide +kernel
theorem dX8_tellValue_51 : decode cX8_tellValue 51 = .ok (.invokevirtual 316, 3) := by decide +kernel
theorem dX8_tellValue_54 : decode cX8_tellValue 54 = .ok (.goto 104, 3) := by decide +kernel
theorem dX8_tellValue_158 : decode cX8_tellValue 158 = .ok (.return_, 1) := by decide +kernel
theorem dX8_tellValue_57 : decode cX8_tellValue 57 = .ok (.aload_n 0, 1) := by decide +kernel
theorem dX8_tellValue_58 : decode cX8_tellValue 58 = .ok (.aload_n 0, 1) := by decide +kernel
theorem dX8_tellValue_59 : decode cX8_tellValue 59 = .ok (.getfield 106, 3) := by decide +kernel
theorem dX8_tellValue_62 : decode cX8_tellValue 62 = .ok (.iload_n 1, 1) := by decide +kernel
theorem dX8_tellValue_63 : decode cX8_tellValue 63 = .ok (.iaload, 1) := by decide +kernel
theorem dX8_tellValue_64 : decode cX8_tellValue 64 = .ok (.iconst 1, 1) := by decide +kernel
theorem dX8_tellValue_65 : decode cX8_tellValue 65 = .ok (.if_icmp .ne 8, 3) := by decide +kernel
theorem dX8_tellValue_73 : decode cX8_tellValue 73 = .ok (.bipush 110, 2) := by decide +kernel
theorem dX8_tellValue_75 : decode cX8_tellValue 75 = .ok (.invokevirtual 304, 3) := by decide +kernel
theorem dX8_tellValue_78 : decode cX8_tellValue 78 = .ok (.goto 80, 3) := by decide +kernel
theorem dX8_tellValue_68 : decode cX8_tellValue 68 = .ok (.bipush 121, 2) := by decide +kernel
theorem dX8_tellValue_70 : decode cX8_tellValue 70 = .ok (.goto 5, 3) := by decide +kernel
theorem dX8_tellValue_81 : decode cX8_tellValue 81 = .ok (.aload_n 0, 1) := by decide +kernel
theorem dX8_tellValue_82 : decode cX8_tellValue 82 = .ok (.bipush 102, 2) := by decide +kernel
theorem dX8_tellValue_84 : decode cX8_tellValue 84 = .ok (.invokevirtual 304, 3) := by decide +kernel
theorem dX8_tellValue_87 : decode cX8_tellValue 87 = .ok (.goto 71, 3) := by decide +kernel
theorem dX8_tellValue_90 : decode cX8_tellValue 90 = .ok (.aload_n 0, 1) := by decide +kernel
theorem dX8_tellValue_91 : decode cX8_tellValue 91 = .ok (.bipush 123, 2) := by decide +kernel
theorem dX8_tellValue_93 : decode cX8_tellValue 93 = .ok (.invokevirtual 304, 3) := by decide +kernel
theorem dX8_tellValue_96 : decode cX8_tellValue 96 = .ok (.iconst 0, 1) := by decide +kernel
theorem dX8_tellValue_97 : decode cX8_tellValue 97 = .ok (.istore_n 2, 1) := by decide +kernel
theorem dX8_tellValue_98 : decode cX8_tellValue 98 = .ok (.iload_n 2, 1) := by decide +kernel
theorem dX8_tellValue_99 : decode cX8_tellValue 99 = .ok (.aload_n 0, 1) := by decide +kernel
theorem dX8_tellValue_100 : decode cX8_tellValue 100 = .ok (.getfield 109, 3) := by decide +kernel
theorem dX8_tellValue_103 : decode cX8_tellValue 103 = .ok (.iload_n 1, 1) := by decide +kernel
theorem dX8_tellValue_104 : decode cX8_tellValue 104 = .ok (.iaload, 1) := by decide +kernel
theorem dX8_tellValue_105 : decode cX8_tellValue 105 = .ok (.if_icmp .ge 47, 3) := by decide +kernel
theorem dX8_tellValue_152 : decode cX8_tellValue 152 = .ok (.aload_n 0, 1) := by decide +kernel
theorem dX8_tellValue_153 : decode cX8_tellValue 153 = .ok (.bipush 125, 2) := by decide +kernel
theorem dX8_tellValue_155 : decode cX8_tellValue 155 = .ok (.invokevirtual 304, 3) := by decide +kernel
theorem dX8_tellValue_108 : decode cX8_tellValue 108 = .ok (.aload_n 0, 1) := by decide +kernel
theorem dX8_tellValue_109 : decode cX8_tellValue 109 = .ok (.bipush 97, 2) := by decide +kernel
theorem dX8_tellValue_111 : decode cX8_tellValue 111 = .ok (.aload_n 0, 1) := by decide +kernel
theorem dX8_tellValue_112 : decode cX8_tellValue 112 = .ok (.getfield 22, 3) := by decide +kernel
theorem dX8_tellValue_115 : decode cX8_tellValue 115 = .ok (.bipush 6, 2) := by decide +kernel
theorem dX8_tellValue_117 : decode cX8_tellValue 117 = .ok (.aload_n 0, 1) := by decide +kernel
theorem dX8_tellValue_118 : decode cX8_tellValue 118 = .ok (.getfield 106, 3) := by decide +kernel
theorem dX8_tellValue_121 : decode cX8_tellValue 121 = .ok (.iload_n 1, 1) := by decide +kernel
theorem dX8_tellValue_122 : decode cX8_tellValue 122 = .ok (.iaload, 1) := by decide +kernel
theorem dX8_tellValue_123 : decode cX8_tellValue 123 = .ok (.imul, 1) := by decide +kernel
theorem dX8_tellValue_124 : decode cX8_tellValue 124 = .ok (.iload_n 2, 1) := by decide +kernel
theorem dX8_tellValue_125 : decode cX8_tellValue 125 = .ok (.iadd, 1) := by decide +kernel
theorem dX8_tellValue_126 : decode cX8_tellValue 126 = .ok (.iaload, 1) := by decide +kernel
theorem dX8_tellValue_127 : decode cX8_tellValue 127 = .ok (.iadd, 1) := by decide +kernel
theorem dX8_tellValue_128 : decode cX8_tellValue 128 = .ok (.invokevirtual 304, 3) := by decide +kernel
theorem dX8_tellValue_131 : decode cX8_tellValue 131 = .ok (.aload_n 0, 1) := by decide +kernel
theorem dX8_tellValue_132 : decode cX8_tellValue 132 = .ok (.aload_n 0, 1) := by decide +kernel
theorem dX8_tellValue_133 : decode cX8_tellValue 133 = .ok (.getfield 112, 3) := by decide +kernel
theorem dX8_tellValue_136 : decode cX8_tellValue 136 = .ok (.bipush 6, 2) := by decide +kernel
theorem dX8_tellValue_138 : decode cX8_tellValue 138 = .ok (.iload_n 1, 1) := by decide +kernel
theorem dX8_tellValue_139 : decode cX8_tellValue 139 = .ok (.imul, 1) := by decide +kernel
theorem dX8_tellValue_140 : decode cX8_tellValue 140 = .ok (.iload_n 2, 1) := by decide +kernel
theorem dX8_tellValue_141 : decode cX8_tellValue 141 = .ok (.iadd, 1) := by decide +kernel
theorem dX8_tellValue_142 : decode cX8_tellValue 142 = .ok (.iaload, 1) := by decide +kernel
theorem dX8_tellValue_143 : decode cX8_tellValue 143 = .ok (.invokevirtual 364, 3) := by decide +kernel
theorem dX8_tellValue_146 : decode cX8_tellValue 146 = .ok (.iinc 2 1, 3) := by decide +kernel
theorem dX8_tellValue_149 : decode cX8_tellValue 149 = .ok (.goto (-51), 3) := by decide +kernel
theorem dX8_value_0 : decode cX8_value 0 = .ok (.aload_n 0, 1) := by decide +kernel
theorem dX8_value_1 : decode cX8_value 1 = .ok (.getfield 131, 3) := by decide +kernel
theorem dX8_value_4 : decode cX8_value 4 = .ok (.ifCond .eq 6, 3) := by decide +kernel
theorem dX8_value_10 : decode cX8_value 10 = .ok (.aload_n 0, 1) := by decide +kernel
theorem dX8_value_11 : decode cX8_value 11 = .ok (.iconst 0, 1) := by decide +kernel
theorem dX8_value_12 : decode cX8_value 12 = .ok (.putfield 298, 3) := by decide +kernel
theorem dX8_value_15 : decode cX8_value 15 = .ok (.aload_n 0, 1) := by decide +kernel
theorem dX8_value_16 : decode cX8_value 16 = .ok (.sipush 200, 3) := by decide +kernel
theorem dX8_value_19 : decode cX8_value 19 = .ok (.putfield 301, 3) := by decide +kernel
theorem dX8_value_22 : decode cX8_value 22 = .ok (.aload_n 0, 1) := by decide +kernel
theorem dX8_value_23 : decode cX8_value 23 = .ok (.aload_n 0, 1) := by decide +kernel
theorem dX8_value_24 : decode cX8_value 24 = .ok (.getfield 361, 3) := by decide +kernel
theorem dX8_value_27 : decode cX8_value 27 = .ok (.invokevirtual 364, 3) := by decide +kernel
theorem dX8_value_30 : decode cX8_value 30 = .ok (.iload_n 1, 1) := by decide +kernel
theorem dX8_value_31 : decode cX8_value 31 = .ok (.iconst (-1), 1) := by decide +kernel
theorem dX8_value_32 : decode cX8_value 32 = .ok (.if_icmp .ne 10, 3) := by decide +kernel
theorem dX8_value_42 : decode cX8_value 42 = .ok (.iload_n 1, 1) := by decide +kernel
theorem dX8_value_43 : decode cX8_value 43 = .ok (.iconst 0, 1) := by decide +kernel
theorem dX8_value_44 : decode cX8_value 44 = .ok (.aload_n 0, 1) := by decide +kernel
theorem dX8_value_45 : decode cX8_value 45 = .ok (.getfield 298, 3) := by decide +kernel
theorem dX8_value_48 : decode cX8_value 48 = .ok (.iconst 1, 1) := by decide +kernel
theorem dX8_value_49 : decode cX8_value 49 = .ok (.isub, 1) := by decide +kernel
theorem dX8_value_50 : decode cX8_value 50 = .ok (.invokestatic 140, 3) := by decide +kernel
theorem dX8_value_53 : decode cX8_value 53 = .ok (.ifCond .eq 12, 3) := by decide +kernel
theorem dX8_value_56 : decode cX8_value 56 = .ok (.aload_n 0, 1) := by decide +kernel
theorem dX8_value_57 : decode cX8_value 57 = .ok (.getfield 92, 3) := by decide +kernel
theorem dX8_value_60 : decode cX8_value 60 = .ok (.iload_n 1, 1) := by decide +kernel
theorem dX8_value_61 : decode cX8_value 61 = .ok (.baload, 1) := by decide +kernel
theorem dX8_value_62 : decode cX8_value 62 = .ok (.goto 5, 3) := by decide +kernel
theorem dX8_value_67 : decode cX8_value 67 = .ok (.ireturn, 1) := by decide +kernel
theorem dX8_value_65 : decode cX8_value 65 = .ok (.bipush (-9), 2) := by decide +kernel
theorem dX8_value_35 : decode cX8_value 35 = .ok (.aload_n 0, 1) := by decide +kernel
theorem dX8_value_36 : decode cX8_value 36 = .ok (.getfield 298, 3) := by decide +kernel
theorem dX8_value_39 : decode cX8_value 39 = .ok (.goto 28, 3) := by decide +kernel
theorem dX8_value_7 : decode cX8_value 7 = .ok (.bipush (-9), 2) := by decide +kernel
theorem dX8_value_9 : decode cX8_value 9 = .ok (.ireturn, 1) := by decide +kernel
theorem in_301 {x : Int32} : (0 ≤ x ∧ x ≤ 300) ↔ ∃ j, j < 301 ∧ x = nI j := by
  rw [show (300 : Int32) = nI 301 - 1 from by decide +kernel]
  exact in_nat2 (by decide)
abbrev LWa : List Nat := [51, 52, 53, 54, 55, 56, 57, 58, 59, 60, 61, 62, 63, 64, 65, 66, 67]
theorem VT.keep {gd : Nat → Prop} {v : Nat} {F F1 : Nat → Nat → Int32} (h : VT gd v F) (e52 : F1 52 = F 52) (e53 : F1 53 = F 53) (e54 : F1 54 = F 54) (e55 : F1 55 = F 55) : VT gd v F1 := by
  unfold VT
  rw [e52, e53, e54, e55]
  exact h
theorem VG.keep {gd : Nat → Prop} {o o1 : Nat → Int32} {F F1 : Nat → Nat → Int32} (h : ∀ v, gd v → v < 400 ∧ VT gd v F) (hK : Kq LTl o F (o1, F1)) : ∀ v, gd v → v < 400 ∧ VT gd v F1 := fun v hv => ⟨(h v hv).1, (h v hv).2.keep (hK 52 (by decide)).2 (hK 53 (by decide)).2 (hK 54 (by decide)).2 (hK 55 (by decide)).2⟩

def mTellXAt (d : Nat) : Prop := ∀ (l : Launch) (G : mG) (hDD : mDD G) (o : Nat → Int32) (F : Nat → Nat → Int32) (gd : Nat → Prop) (bm : Nat) (mo : Nat) (v : Nat) (hV : ∀ v, gd v → v < 400 ∧ VT gd v F) (h47 : o 47 = nI bm) (h48 : o 48 = nI mo) (hmo : mo ≤ 400) (hbm : bm ≤ mo) (hd : mo ≤ bm + d) (hg : gd v) (sz : Nat), Met l yX8_tellValue (wU yX8_tellValue cX8_tellValue 3 none) { frames := d + 2, cells := 0, slots := 0, locals := 22 * d + 50 } (mPc G o F sz [.ref (mh G), .int (nI v)]) (mQv G sz (fun u => TL mo bm o F u)) 0 0 (mA G sz)

set_option maxHeartbeats 4000000 in
set_option maxRecDepth 100000 in
/-- tellValue, no room -/
theorem m_tellX_0 (l : Launch) (G : mG) (hDD : mDD G) (o : Nat → Int32) (F : Nat → Nat → Int32) (gd : Nat → Prop) (bm : Nat) (mo : Nat) (v : Nat) (hV : ∀ v, gd v → v < 400 ∧ VT gd v F) (h47 : o 47 = nI bm) (h48 : o 48 = nI mo) (hmo : mo ≤ 400) (hbm : bm ≤ mo) (hd : mo ≤ bm + 0) (hg : gd v) (sz : Nat) : Met l yX8_tellValue (wU yX8_tellValue cX8_tellValue 3 none) { frames := 0 + 2, cells := 0, slots := 0, locals := 22 * 0 + 50 } (mPc G o F sz [.ref (mh G), .int (nI v)]) (mQv G sz (fun u => TL mo bm o F u)) 0 0 (mA G sz) := by
  refine Met.ofW (cc := cX8_tellValue) (maxL := 3) (ret := none) (by decide) rfl ?_
  intro p e s m args below meth c s₁ B hml hv
  obtain ⟨rfl, hsz, hP, hK⟩ := hv
  have hx := B.exec
  have hb := B.bytes
  have hr := B.returns
  have htu : ∀ w ∈ WU, w.before _ s = true := fun w h => atoms_spec (ws := (wU yX8_tellValue cX8_tellValue 3 none)) B.pre w (List.mem_cons_of_mem _ h)
  have hown : s.vm.findClass RX8 = some m.cls := findClass_of_methodNamed B.named
  have hlocks := B.notSynchronized
  subst hsz
  have hS : va_S (mA G s.heap.size) s.heap s.heap [] := va_S.rf
  have hl := lv_entry ([.ref (mh G), .int (nI v)]) (n := 3) (Nat.le_of_ble_eq_true rfl)
  rw [lg_entry_eq]
  generalize (lg_sl ([.ref (mh G), .int (nI v)]) ++ List.replicate (3 - (lg_sl ([.ref (mh G), .int (nI v)])).length) Slot.unset).toArray = ls at hl ⊢
  have hl : lv_has ls 3 [(0, .ref (mh G)), (1, .int (nI v))] := hl
  obtain ⟨H, hHe⟩ : ∃ H : Heap, H = s.heap := ⟨_, rfl⟩
  rw [← hHe] at hP
  have hS : va_S (mA G s.heap.size) s.heap H [] := by rw [hHe]; exact va_S.rf
  refine W.heq hHe ?_
  refine lv_aload_n hx hb dX8_tellValue_0 rfl (lv_at hl 0 rfl) ?_
  refine m_get (v := .int (nI bm)) hx hb htu wu_in hown hK hP 47 (by decide) (htu _ U_187) rfl (m_v h47) dX8_tellValue_1 ?_
  refine lv_aload_n hx hb dX8_tellValue_4 rfl (lv_at hl 0 rfl) ?_
  refine m_get (v := .int (nI mo)) hx hb htu wu_in hown hK hP 48 (by decide) (htu _ U_188) rfl (m_v h48) dX8_tellValue_5 ?_
  refine lv_icmp_ne (tgt := 12) hx hb dX8_tellValue_8 (by decide) (fun c_1 => absurd (congrArg nI (show bm = mo by omega)) c_1) (fun c_1 => ?_)
  exact m_vret hx hb hr hK hP hS ⟨bm, Nat.le_refl _, hbm, h47, Kq.rf⟩ dX8_tellValue_11 hlocks

set_option maxHeartbeats 4000000 in
set_option maxRecDepth 100000 in
/-- tellValue, one more -/
theorem m_tellX_s (l : Launch) (G : mG) (hDD : mDD G) (o : Nat → Int32) (F : Nat → Nat → Int32) (d : Nat) (gd : Nat → Prop) (bm : Nat) (mo : Nat) (v : Nat) (ih : mTellXAt d) (hV : ∀ v, gd v → v < 400 ∧ VT gd v F) (h47 : o 47 = nI bm) (h48 : o 48 = nI mo) (hmo : mo ≤ 400) (hbm : bm ≤ mo) (hd : mo ≤ bm + (d + 1)) (hg : gd v) (sz : Nat) : Met l yX8_tellValue (wU yX8_tellValue cX8_tellValue 3 none) { frames := (d + 1) + 2, cells := 0, slots := 0, locals := 22 * (d + 1) + 50 } (mPc G o F sz [.ref (mh G), .int (nI v)]) (mQv G sz (fun u => TL mo bm o F u)) 0 0 (mA G sz) := by
  refine Met.ofW (cc := cX8_tellValue) (maxL := 3) (ret := none) (by decide) rfl ?_
  intro p e s m args below meth c s₁ B hml hv
  obtain ⟨rfl, hsz, hP, hK⟩ := hv
  have hx := B.exec
  have hb := B.bytes
  have hr := B.returns
  have htu : ∀ w ∈ WU, w.before _ s = true := fun w h => atoms_spec (ws := (wU yX8_tellValue cX8_tellValue 3 none)) B.pre w (List.mem_cons_of_mem _ h)
  have hown : s.vm.findClass RX8 = some m.cls := findClass_of_methodNamed B.named
  have hlocks := B.notSynchronized
  subst hsz
  have hS : va_S (mA G s.heap.size) s.heap s.heap [] := va_S.rf
  have hl := lv_entry ([.ref (mh G), .int (nI v)]) (n := 3) (Nat.le_of_ble_eq_true rfl)
  rw [lg_entry_eq]
  generalize (lg_sl ([.ref (mh G), .int (nI v)]) ++ List.replicate (3 - (lg_sl ([.ref (mh G), .int (nI v)])).length) Slot.unset).toArray = ls at hl ⊢
  have hl : lv_has ls 3 [(0, .ref (mh G)), (1, .int (nI v))] := hl
  obtain ⟨H, hHe⟩ : ∃ H : Heap, H = s.heap := ⟨_, rfl⟩
  rw [← hHe] at hP
  have hS : va_S (mA G s.heap.size) s.heap H [] := by rw [hHe]; exact va_S.rf
  refine W.heq hHe ?_
  obtain ⟨v4, hv9⟩ := hV v hg
  refine lv_aload_n hx hb dX8_tellValue_0 rfl (lv_at hl 0 rfl) ?_
  refine m_get (v := .int (nI bm)) hx hb htu wu_in hown hK hP 47 (by decide) (htu _ U_187) rfl (m_v h47) dX8_tellValue_1 ?_
  refine lv_aload_n hx hb dX8_tellValue_4 rfl (lv_at hl 0 rfl) ?_
  refine m_get (v := .int (nI mo)) hx hb htu wu_in hown hK hP 48 (by decide) (htu _ U_188) rfl (m_v h48) dX8_tellValue_5 ?_
  refine lv_icmp_ne (tgt := 12) hx hb dX8_tellValue_8 (by decide) (fun c_1 => ?_) (fun c_1 => ?_)
  · skip
    have nc_1 : ¬ bm = mo := fun h9 => c_1 ((nI_eq (a := bm) (b := mo) (by omega) (by omega)).mpr h9)
    refine lv_aload_n hx hb dX8_tellValue_12 rfl (lv_at hl 0 rfl) ?_
    refine m_get (v := .ref (md G 52)) hx hb htu wu_in hown hK hP 52 (by decide) (htu _ U_237) rfl rfl dX8_tellValue_13 ?_
    refine lv_iload_n hx hb dX8_tellValue_16 rfl (lv_at hl 1 rfl) ?_
    refine m_ald (j := v) (v := F 52 v) hx hb hK hP 31 52 rfl (by omega) (by decide) rfl dX8_tellValue_17 ?_
    rcases Decidable.em (F 52 v = 0) with c_2 | c_2
    · skip
      refine lv_tableIn (tgt := 44) hx hb dX8_tellValue_18 (by rw [c_2]; decide) (by rw [c_2]; decide) (by rw [c_2]; rfl) (by decide) ?_
      refine lv_aload_n hx hb dX8_tellValue_44 rfl (lv_at hl 0 rfl) ?_
      refine lv_aload_n hx hb dX8_tellValue_45 rfl (lv_at hl 0 rfl) ?_
      refine m_get (v := .ref (md G 53)) hx hb htu wu_in hown hK hP 53 (by decide) (htu _ U_238) rfl rfl dX8_tellValue_46 ?_
      refine lv_iload_n hx hb dX8_tellValue_49 rfl (lv_at hl 1 rfl) ?_
      refine m_ald (j := v) (v := F 53 v) hx hb hK hP 32 53 rfl (by omega) (by decide) rfl dX8_tellValue_50 ?_
      refine m_cv (m_runV (As := [.int (F 53 v)]) (rest := []) ⟨hx, hb, hml, hown, htu⟩ (m_outNumber l G hDD o F bm mo (F 53 v) h47 ((((Kq.rf (L := LTl) (o := o) (F := F)) 48 (by decide)).1.trans h48)) hmo ((by omega)) H.size) (cwV 1 htu gU_X8_outNumber rfl rfl rfl (by decide +kernel) ⟨show 1 + 1 ≤ (d + 1) + 2 by omega, show 8 + (6 + 11) + 21 ≤ 22 * (d + 1) + 50 by omega⟩) hP hK rfl hl.1 rfl (lv_room (Nat.le_of_ble_eq_true rfl)) dX8_tellValue_51) hS (fun o_4 F_5 H locs hw_6 hP hS => ?_)
      try dsimp only at hw_6
      obtain ⟨b_7, b_7a, b_7b, b_7d, b_7e⟩ := hw_6
      have b_7q : Kq LTl o F (o_4, F_5) := (Kq.rf (L := LTl) (o := o) (F := F)).tr b_7e
      refine lv_goto (tgt := 158) hx hb dX8_tellValue_54 (by decide) ?_
      exact m_vret hx hb hr hK hP hS ⟨b_7, by omega, by omega, b_7d, b_7q⟩ dX8_tellValue_158 hlocks
    rcases Decidable.em (F 52 v = 1) with c_8 | c_8
    · skip
      refine lv_tableIn (tgt := 57) hx hb dX8_tellValue_18 (by rw [c_8]; decide) (by rw [c_8]; decide) (by rw [c_8]; rfl) (by decide) ?_
      refine lv_aload_n hx hb dX8_tellValue_57 rfl (lv_at hl 0 rfl) ?_
      refine lv_aload_n hx hb dX8_tellValue_58 rfl (lv_at hl 0 rfl) ?_
      refine m_get (v := .ref (md G 53)) hx hb htu wu_in hown hK hP 53 (by decide) (htu _ U_238) rfl rfl dX8_tellValue_59 ?_
      refine lv_iload_n hx hb dX8_tellValue_62 rfl (lv_at hl 1 rfl) ?_
      refine m_ald (j := v) (v := F 53 v) hx hb hK hP 32 53 rfl (by omega) (by decide) rfl dX8_tellValue_63 ?_
      refine lv_iconst (v := 1) hx hb dX8_tellValue_64 (by decide) ?_
      refine lv_icmp_ne (tgt := 73) hx hb dX8_tellValue_65 (by decide) (fun c_9 => ?_) (fun c_9 => ?_)
      · skip
        refine lv_bipush (v := 110) hx hb dX8_tellValue_73 (by decide) ?_
        refine m_cv (m_runV (As := [.int 110]) (rest := []) ⟨hx, hb, hml, hown, htu⟩ (m_out l G hDD o F bm mo 110 h47 ((((Kq.rf (L := LTl) (o := o) (F := F)) 48 (by decide)).1.trans h48)) hmo ((by omega)) H.size) (cwV 1 htu gU_X8_out rfl rfl rfl (by decide +kernel) ⟨show 0 + 1 ≤ (d + 1) + 2 by omega, show 8 + (2 + 11) + 0 ≤ 22 * (d + 1) + 50 by omega⟩) hP hK rfl hl.1 rfl (lv_room (Nat.le_of_ble_eq_true rfl)) dX8_tellValue_75) hS (fun o_11 F_12 H locs hw_13 hP hS => ?_)
        try dsimp only at hw_13
        obtain ⟨b_14, b_14a, b_14b, b_14c, b_14d, b_14e⟩ := TL.out h47 (by omega) hw_13
        have b_14q : Kq LTl o F (o_11, F_12) := (Kq.rf (L := LTl) (o := o) (F := F)).tr b_14e
        have b_14l : bm < b_14 := by omega
        refine lv_goto (tgt := 158) hx hb dX8_tellValue_78 (by decide) ?_
        exact m_vret hx hb hr hK hP hS ⟨b_14, by omega, by omega, b_14d, b_14q⟩ dX8_tellValue_158 hlocks
      · skip
        refine lv_bipush (v := 121) hx hb dX8_tellValue_68 (by decide) ?_
        refine lv_goto (tgt := 75) hx hb dX8_tellValue_70 (by decide) ?_
        refine m_cv (m_runV (As := [.int 121]) (rest := []) ⟨hx, hb, hml, hown, htu⟩ (m_out l G hDD o F bm mo 121 h47 ((((Kq.rf (L := LTl) (o := o) (F := F)) 48 (by decide)).1.trans h48)) hmo ((by omega)) H.size) (cwV 1 htu gU_X8_out rfl rfl rfl (by decide +kernel) ⟨show 0 + 1 ≤ (d + 1) + 2 by omega, show 8 + (2 + 11) + 0 ≤ 22 * (d + 1) + 50 by omega⟩) hP hK rfl hl.1 rfl (lv_room (Nat.le_of_ble_eq_true rfl)) dX8_tellValue_75) hS (fun o_16 F_17 H locs hw_18 hP hS => ?_)
        try dsimp only at hw_18
        obtain ⟨b_19, b_19a, b_19b, b_19c, b_19d, b_19e⟩ := TL.out h47 (by omega) hw_18
        have b_19q : Kq LTl o F (o_16, F_17) := (Kq.rf (L := LTl) (o := o) (F := F)).tr b_19e
        have b_19l : bm < b_19 := by omega
        refine lv_goto (tgt := 158) hx hb dX8_tellValue_78 (by decide) ?_
        exact m_vret hx hb hr hK hP hS ⟨b_19, by omega, by omega, b_19d, b_19q⟩ dX8_tellValue_158 hlocks
    rcases Decidable.em (F 52 v = 2) with c_20 | c_20
    · skip
      refine lv_tableIn (tgt := 81) hx hb dX8_tellValue_18 (by rw [c_20]; decide) (by rw [c_20]; decide) (by rw [c_20]; rfl) (by decide) ?_
      refine lv_aload_n hx hb dX8_tellValue_81 rfl (lv_at hl 0 rfl) ?_
      refine lv_bipush (v := 102) hx hb dX8_tellValue_82 (by decide) ?_
      refine m_cv (m_runV (As := [.int 102]) (rest := []) ⟨hx, hb, hml, hown, htu⟩ (m_out l G hDD o F bm mo 102 h47 ((((Kq.rf (L := LTl) (o := o) (F := F)) 48 (by decide)).1.trans h48)) hmo ((by omega)) H.size) (cwV 1 htu gU_X8_out rfl rfl rfl (by decide +kernel) ⟨show 0 + 1 ≤ (d + 1) + 2 by omega, show 8 + (2 + 11) + 0 ≤ 22 * (d + 1) + 50 by omega⟩) hP hK rfl hl.1 rfl (lv_room (Nat.le_of_ble_eq_true rfl)) dX8_tellValue_84) hS (fun o_22 F_23 H locs hw_24 hP hS => ?_)
      try dsimp only at hw_24
      obtain ⟨b_25, b_25a, b_25b, b_25c, b_25d, b_25e⟩ := TL.out h47 (by omega) hw_24
      have b_25q : Kq LTl o F (o_22, F_23) := (Kq.rf (L := LTl) (o := o) (F := F)).tr b_25e
      have b_25l : bm < b_25 := by omega
      refine lv_goto (tgt := 158) hx hb dX8_tellValue_87 (by decide) ?_
      exact m_vret hx hb hr hK hP hS ⟨b_25, by omega, by omega, b_25d, b_25q⟩ dX8_tellValue_158 hlocks
    have hout : (F 52 v).toInt < 0 ∨ 2 < (F 52 v).toInt := tb_out (F 52 v) 0 2 (fun z h1 h2 e => by
      rcases (show z = 0 ∨ z = 1 ∨ z = 2 by omega) with rfl | rfl | rfl
      · exact c_2 (Int32.toInt_inj.mp (e.trans (by decide)))
      · exact c_8 (Int32.toInt_inj.mp (e.trans (by decide)))
      · exact c_20 (Int32.toInt_inj.mp (e.trans (by decide))))
    refine lv_tableOut (tgt := 90) hx hb dX8_tellValue_18 hout (by decide) ?_
    obtain ⟨hs9, m9, c9, x1_, x2_, x3_, x4_, x5_⟩ := ((hv9.resolve_left c_2).resolve_left c_8).resolve_left c_20
    refine lv_aload_n hx hb dX8_tellValue_90 rfl (lv_at hl 0 rfl) ?_
    refine lv_bipush (v := 123) hx hb dX8_tellValue_91 (by decide) ?_
    refine m_cv (m_runV (As := [.int 123]) (rest := []) ⟨hx, hb, hml, hown, htu⟩ (m_out l G hDD o F bm mo 123 h47 ((((Kq.rf (L := LTl) (o := o) (F := F)) 48 (by decide)).1.trans h48)) hmo ((by omega)) H.size) (cwV 1 htu gU_X8_out rfl rfl rfl (by decide +kernel) ⟨show 0 + 1 ≤ (d + 1) + 2 by omega, show 8 + (2 + 11) + 0 ≤ 22 * (d + 1) + 50 by omega⟩) hP hK rfl hl.1 rfl (lv_room (Nat.le_of_ble_eq_true rfl)) dX8_tellValue_93) hS (fun o_27 F_28 H locs hw_29 hP hS => ?_)
    try dsimp only at hw_29
    obtain ⟨b_30, b_30a, b_30b, b_30c, b_30d, b_30e⟩ := TL.out h47 (by omega) hw_29
    have b_30q : Kq LTl o F (o_27, F_28) := (Kq.rf (L := LTl) (o := o) (F := F)).tr b_30e
    have b_30l : bm < b_30 := by omega
    refine lv_iconst (v := 0) hx hb dX8_tellValue_96 (by decide) ?_
    refine lv_istore_n (lv' := [(2, .int 0), (0, .ref (mh G)), (1, .int (nI v))]) hx hb dX8_tellValue_97 rfl hl (by decide) rfl (fun ls hl => ?_)
    refine w_loop (fun j H locs k sl g => ∃ (o1 : Nat → Int32) (F1 : Nat → Nat → Int32) (bm1 : Nat) (i : Nat) (ls : Array Slot), i + j = c9 ∧ o1 47 = nI bm1 ∧ bm < bm1 ∧ bm1 ≤ mo ∧ Kq LTl o F (o1, F1) ∧ k = 0 ∧ sl = 0 ∧ mP G o1 F1 H ∧ va_S (mA G s.heap.size) s.heap H locs ∧ lv_has ls 3 [(0, .ref (mh G)), (1, .int (nI v)), (2, .int (nI i))] ∧ g = F0 m 98 ls []) ?_ ?_ c9 _ _ _ _ _ ⟨o_27, F_28, b_30, 0, ls, by omega, b_30d, by omega, by omega, b_30q, rfl, rfl, hP, hS, lv_sub hl [1, 2, 0] rfl, rfl⟩
    · intro H locs k sl g hI
      obtain ⟨o1, F1, bm1, i, ls, hp0, hp1, hp2, hp3, hp4, rfl, rfl, hP, hS, hl, rfl⟩ := hI
      refine lv_iload_n hx hb dX8_tellValue_98 rfl (lv_at hl 2 rfl) ?_
      refine lv_aload_n hx hb dX8_tellValue_99 rfl (lv_at hl 0 rfl) ?_
      refine m_get (v := .ref (md G 54)) hx hb htu wu_in hown hK hP 54 (by decide) (htu _ U_239) rfl rfl dX8_tellValue_100 ?_
      refine lv_iload_n hx hb dX8_tellValue_103 rfl (lv_at hl 1 rfl) ?_
      refine m_ald (j := v) (v := nI c9) hx hb hK hP 33 54 rfl (by omega) (by decide) ((congrFun ((hp4 54 (by decide)).2) _).trans x4_) dX8_tellValue_104 ?_
      refine lv_icmp_ge (tgt := 152) hx hb dX8_tellValue_105 (by decide) (fun c_31 => ?_) (fun c_31 => absurd (nI_le (by omega) (by omega)) c_31)
      refine lv_aload_n hx hb dX8_tellValue_152 rfl (lv_at hl 0 rfl) ?_
      refine lv_bipush (v := 125) hx hb dX8_tellValue_153 (by decide) ?_
      refine m_cv (m_runV (As := [.int 125]) (rest := []) ⟨hx, hb, hml, hown, htu⟩ (m_out l G hDD o1 F1 bm1 mo 125 hp1 (((hp4 48 (by decide)).1.trans h48)) hmo ((by omega)) H.size) (cwV 1 htu gU_X8_out rfl rfl rfl (by decide +kernel) ⟨show 0 + 1 ≤ (d + 1) + 2 by omega, show 8 + (2 + 11) + 0 ≤ 22 * (d + 1) + 50 by omega⟩) hP hK rfl hl.1 rfl (lv_room (Nat.le_of_ble_eq_true rfl)) dX8_tellValue_155) hS (fun o_33 F_34 H locs hw_35 hP hS => ?_)
      try dsimp only at hw_35
      obtain ⟨b_36, b_36a, b_36b, b_36c, b_36d, b_36e⟩ := TL.out hp1 (by omega) hw_35
      have b_36q : Kq LTl o F (o_33, F_34) := hp4.tr b_36e
      have b_36l : bm < b_36 := by omega
      exact m_vret hx hb hr hK hP hS ⟨b_36, by omega, by omega, b_36d, b_36q⟩ dX8_tellValue_158 hlocks
    · intro j ih9 H locs k sl g hI
      obtain ⟨o1, F1, bm1, i, ls, hp0, hp1, hp2, hp3, hp4, rfl, rfl, hP, hS, hl, rfl⟩ := hI
      have ni : i < c9 := by omega
      obtain ⟨w9, q1_, q2_⟩ := x5_ i ni
      refine lv_iload_n hx hb dX8_tellValue_98 rfl (lv_at hl 2 rfl) ?_
      refine lv_aload_n hx hb dX8_tellValue_99 rfl (lv_at hl 0 rfl) ?_
      refine m_get (v := .ref (md G 54)) hx hb htu wu_in hown hK hP 54 (by decide) (htu _ U_239) rfl rfl dX8_tellValue_100 ?_
      refine lv_iload_n hx hb dX8_tellValue_103 rfl (lv_at hl 1 rfl) ?_
      refine m_ald (j := v) (v := nI c9) hx hb hK hP 33 54 rfl (by omega) (by decide) ((congrFun ((hp4 54 (by decide)).2) _).trans x4_) dX8_tellValue_104 ?_
      refine lv_icmp_ge (tgt := 152) hx hb dX8_tellValue_105 (by decide) (fun c_37 => absurd c_37 (nI_ge ni (by omega))) (fun c_37 => ?_)
      refine lv_aload_n hx hb dX8_tellValue_108 rfl (lv_at hl 0 rfl) ?_
      refine lv_bipush (v := 97) hx hb dX8_tellValue_109 (by decide) ?_
      refine lv_aload_n hx hb dX8_tellValue_111 rfl (lv_at hl 0 rfl) ?_
      refine m_get (v := .ref (md G 5)) hx hb htu wu_in hown hK hP 5 (by decide) (htu _ U_7) rfl rfl dX8_tellValue_112 ?_
      refine lv_bipush (v := 6) hx hb dX8_tellValue_115 (by decide) ?_
      refine lv_aload_n hx hb dX8_tellValue_117 rfl (lv_at hl 0 rfl) ?_
      refine m_get (v := .ref (md G 53)) hx hb htu wu_in hown hK hP 53 (by decide) (htu _ U_238) rfl rfl dX8_tellValue_118 ?_
      refine lv_iload_n hx hb dX8_tellValue_121 rfl (lv_at hl 1 rfl) ?_
      refine m_ald (j := v) (v := nI m9) hx hb hK hP 32 53 rfl (by omega) (by decide) ((congrFun ((hp4 53 (by decide)).2) _).trans x3_) dX8_tellValue_122 ?_
      refine lv_imul hx hb dX8_tellValue_123 ?_
      refine m_top (y := nI (6 * m9)) (pk_mul 6 m9) ?_
      refine lv_iload_n hx hb dX8_tellValue_124 rfl (lv_at hl 2 rfl) ?_
      refine lv_iadd hx hb dX8_tellValue_125 ?_
      refine m_top (y := nI (6 * m9 + i)) (nI_add (6 * m9) i) ?_
      refine m_ald (j := 6 * m9 + i) (v := F1 5 (6 * m9 + i)) hx hb hK hP 5 5 rfl (by omega) (by decide) rfl dX8_tellValue_126 ?_
      refine lv_iadd hx hb dX8_tellValue_127 ?_
      refine m_top (y := 97 + (F1 5 (6 * m9 + i))) rfl ?_
      refine m_cv (m_runV (As := [.int (97 + (F1 5 (6 * m9 + i)))]) (rest := []) ⟨hx, hb, hml, hown, htu⟩ (m_out l G hDD o1 F1 bm1 mo (97 + (F1 5 (6 * m9 + i))) hp1 (((hp4 48 (by decide)).1.trans h48)) hmo ((by omega)) H.size) (cwV 1 htu gU_X8_out rfl rfl rfl (by decide +kernel) ⟨show 0 + 1 ≤ (d + 1) + 2 by omega, show 8 + (2 + 11) + 0 ≤ 22 * (d + 1) + 50 by omega⟩) hP hK rfl hl.1 rfl (lv_room (Nat.le_of_ble_eq_true rfl)) dX8_tellValue_128) hS (fun o_39 F_40 H locs hw_41 hP hS => ?_)
      try dsimp only at hw_41
      obtain ⟨b_42, b_42a, b_42b, b_42c, b_42d, b_42e⟩ := TL.out hp1 (by omega) hw_41
      have b_42q : Kq LTl o F (o_39, F_40) := hp4.tr b_42e
      have b_42l : bm < b_42 := by omega
      refine lv_aload_n hx hb dX8_tellValue_131 rfl (lv_at hl 0 rfl) ?_
      refine lv_aload_n hx hb dX8_tellValue_132 rfl (lv_at hl 0 rfl) ?_
      refine m_get (v := .ref (md G 55)) hx hb htu wu_in hown hK hP 55 (by decide) (htu _ U_240) rfl rfl dX8_tellValue_133 ?_
      refine lv_bipush (v := 6) hx hb dX8_tellValue_136 (by decide) ?_
      refine lv_iload_n hx hb dX8_tellValue_138 rfl (lv_at hl 1 rfl) ?_
      refine lv_imul hx hb dX8_tellValue_139 ?_
      refine m_top (y := nI (6 * v)) (pk_mul 6 v) ?_
      refine lv_iload_n hx hb dX8_tellValue_140 rfl (lv_at hl 2 rfl) ?_
      refine lv_iadd hx hb dX8_tellValue_141 ?_
      refine m_top (y := nI (6 * v + i)) (nI_add (6 * v) i) ?_
      refine m_ald (j := 6 * v + i) (v := nI w9) hx hb hK hP 34 55 rfl (by omega) (by decide) ((congrFun ((b_42q 55 (by decide)).2) _).trans q2_) dX8_tellValue_142 ?_
      refine m_cv (m_runV (As := [.int (nI w9)]) (rest := []) ⟨hx, hb, hml, hown, htu⟩ (ih l G hDD o_39 F_40 gd b_42 mo w9 ((VG.keep hV b_42q)) b_42d (((b_42q 48 (by decide)).1.trans h48)) hmo ((by omega)) ((by omega)) q1_ H.size) (cwV 1 htu gU_X8_tellValue rfl rfl rfl (by decide +kernel) ⟨show (d + 2) + 1 ≤ (d + 1) + 2 by omega, show 8 + (3 + 11) + (22 * d + 50) ≤ 22 * (d + 1) + 50 by omega⟩) hP hK rfl hl.1 rfl (lv_room (Nat.le_of_ble_eq_true rfl)) dX8_tellValue_143) hS (fun o_44 F_45 H locs hw_46 hP hS => ?_)
      try dsimp only at hw_46
      obtain ⟨b_47, b_47a, b_47b, b_47d, b_47e⟩ := hw_46
      have b_47q : Kq LTl o F (o_44, F_45) := b_42q.tr b_47e
      refine lv_iinc (v := nI (i + 1)) (lv' := [(2, .int (nI (i + 1))), (0, .ref (mh G)), (1, .int (nI v))]) hx hb dX8_tellValue_146 hl (k := 2) rfl (nI_1 i) (by decide) rfl (fun ls hl => ?_)
      refine lv_goto (tgt := 98) hx hb dX8_tellValue_149 (by decide) ?_
      exact ih9 _ _ _ _ _ ⟨o_44, F_45, b_47, i + 1, ls, by omega, b_47d, by omega, by omega, b_47q, rfl, rfl, hP, hS, lv_sub hl [1, 2, 0] rfl, rfl⟩
  · skip
    have nc_1 : bm = mo := (nI_eq (a := bm) (b := mo) (by omega) (by omega)).mp c_1
    exact m_vret hx hb hr hK hP hS ⟨bm, by omega, by omega, h47, (Kq.rf (L := LTl) (o := o) (F := F))⟩ dX8_tellValue_11 hlocks

theorem m_tellX_all : ∀ d : Nat, mTellXAt d := by
  intro d
  induction d with
  | zero =>
    intro l G hDD o F gd bm mo v hV h47 h48 hmo hbm hd hg sz
    exact m_tellX_0 l G hDD o F gd bm mo v hV h47 h48 hmo hbm hd hg sz
  | succ d ih =>
    intro l G hDD o F gd bm mo v hV h47 h48 hmo hbm hd hg sz
    exact m_tellX_s l G hDD o F d gd bm mo v ih hV h47 h48 hmo hbm hd hg sz

set_option maxHeartbeats 4000000 in
set_option maxRecDepth 100000 in
/-- value -/
theorem m_value (l : Launch) (G : mG) (hDD : mDD G) (o : Nat → Int32) (F : Nat → Nat → Int32) (y : Int32) (hV : WV o F) (sz : Nat) : Met l yX8_value (wU yX8_value cX8_value 2 (some .int)) { frames := 203, cells := 0, slots := 0, locals := 4472 } (mPc G o F sz [.ref (mh G), .int y]) (mQi G sz (fun r u => Kq LTa o F u)) 0 0 (mA G sz) := by
  refine Met.ofW (cc := cX8_value) (maxL := 2) (ret := (some .int)) (by decide) rfl ?_
  intro p e s m args below meth c s₁ B hml hv
  obtain ⟨rfl, hsz, hP, hK⟩ := hv
  have hx := B.exec
  have hb := B.bytes
  have hr := B.returns
  have htu : ∀ w ∈ WU, w.before _ s = true := fun w h => atoms_spec (ws := (wU yX8_value cX8_value 2 (some .int))) B.pre w (List.mem_cons_of_mem _ h)
  have hown : s.vm.findClass RX8 = some m.cls := findClass_of_methodNamed B.named
  have hlocks := B.notSynchronized
  subst hsz
  have hS : va_S (mA G s.heap.size) s.heap s.heap [] := va_S.rf
  have hl := lv_entry ([.ref (mh G), .int y]) (n := 2) (Nat.le_of_ble_eq_true rfl)
  rw [lg_entry_eq]
  generalize (lg_sl ([.ref (mh G), .int y]) ++ List.replicate (2 - (lg_sl ([.ref (mh G), .int y])).length) Slot.unset).toArray = ls at hl ⊢
  have hl : lv_has ls 2 [(0, .ref (mh G)), (1, .int y)] := hl
  obtain ⟨H, hHe⟩ : ∃ H : Heap, H = s.heap := ⟨_, rfl⟩
  rw [← hHe] at hP
  have hS : va_S (mA G s.heap.size) s.heap H [] := by rw [hHe]; exact va_S.rf
  refine W.heq hHe ?_
  refine lv_aload_n hx hb dX8_value_0 rfl (lv_at hl 0 rfl) ?_
  refine m_get (v := .int (o 61)) hx hb htu wu_in hown hK hP 61 (by decide) (htu _ U_222) rfl rfl dX8_value_1 ?_
  refine lv_if_eq (tgt := 10) hx hb dX8_value_4 (by decide) (fun c_1 => ?_) (fun c_1 => ?_)
  · skip
    obtain ⟨gd, ⟨w1_, g1_, g2_⟩, g3_⟩ := hV c_1
    refine lv_aload_n hx hb dX8_value_10 rfl (lv_at hl 0 rfl) ?_
    refine lv_iconst (v := 0) hx hb dX8_value_11 (by decide) ?_
    refine m_put (ty := .int) (x := 0) hx hb htu wu_in hown hK hP hDD hS 47 (by decide) (htu _ U_187) rfl rfl (by decide +kernel) rfl rfl (mO_s47 _ _ _) dX8_value_12 (fun H locs hP hS => ?_)
    refine lv_aload_n hx hb dX8_value_15 rfl (lv_at hl 0 rfl) ?_
    refine lv_sipush (v := 200) hx hb dX8_value_16 (by decide) ?_
    refine m_put (ty := .int) (x := 200) hx hb htu wu_in hown hK hP hDD hS 48 (by decide) (htu _ U_188) rfl rfl (by decide +kernel) rfl rfl (mO_s48 _ _ _) dX8_value_19 (fun H locs hP hS => ?_)
    refine lv_aload_n hx hb dX8_value_22 rfl (lv_at hl 0 rfl) ?_
    refine lv_aload_n hx hb dX8_value_23 rfl (lv_at hl 0 rfl) ?_
    refine m_get (v := .int (nI w1_)) hx hb htu wu_in hown hK hP 66 (by decide) (htu _ U_224) rfl (m_v g2_) dX8_value_24 ?_
    refine m_cv (m_runV (As := [.int (nI w1_)]) (rest := []) ⟨hx, hb, hml, hown, htu⟩ (m_tellX_all 200 l G hDD (upd (upd o 47 0) 48 200) F gd 0 200 w1_ g3_ rfl rfl ((by decide)) ((by decide)) ((by decide)) g1_ H.size) (cwV 1 htu gU_X8_tellValue rfl rfl rfl (by decide +kernel) ⟨Nat.le_of_ble_eq_true rfl, Nat.le_of_ble_eq_true rfl⟩) hP hK rfl hl.1 rfl (lv_room (Nat.le_of_ble_eq_true rfl)) dX8_value_27) hS (fun o_3 F_4 H locs hw_5 hP hS => ?_)
    try dsimp only at hw_5
    obtain ⟨b9, b9a, b9b, b9d, b9e⟩ := hw_5
    have hK9 := (((Kq.rf (L := LTa) (o := o) (F := F)).o (by decide)).o (by decide)).tr (b9e.mono (by decide))
    refine lv_iload_n hx hb dX8_value_30 rfl (lv_at hl 1 rfl) ?_
    refine lv_iconst (v := (-1)) hx hb dX8_value_31 (by decide) ?_
    refine lv_icmp_ne (tgt := 42) hx hb dX8_value_32 (by decide) (fun c_6 => ?_) (fun c_6 => ?_)
    · skip
      refine lv_iload_n hx hb dX8_value_42 rfl (lv_at hl 1 rfl) ?_
      refine lv_iconst (v := 0) hx hb dX8_value_43 (by decide) ?_
      refine lv_aload_n hx hb dX8_value_44 rfl (lv_at hl 0 rfl) ?_
      refine m_get (v := .int (nI b9)) hx hb htu wu_in hown hK hP 47 (by decide) (htu _ U_187) rfl (m_v b9d) dX8_value_45 ?_
      refine lv_iconst (v := 1) hx hb dX8_value_48 (by decide) ?_
      refine lv_isub hx hb dX8_value_49 ?_
      refine m_top (y := nI b9 - 1) rfl ?_
      refine m_ci (m_runS (As := [.int y, .int 0, .int (nI b9 - 1)]) (rest := []) ⟨hx, hb, hml, hown, htu⟩ (m_inn l G hDD o_3 F_4 y 0 ((nI b9 - 1)) H.size) (va_cwS 3 htu gU_X8_in rfl rfl rfl (by decide +kernel) ⟨Nat.le_of_ble_eq_true rfl, Nat.le_of_ble_eq_true rfl⟩) hP hK rfl hl.1 rfl (lv_room (Nat.le_of_ble_eq_true rfl)) dX8_value_50) hS (fun r_7 o_8 F_9 H locs hw_10 hP hS => ?_)
      try dsimp only at hw_10
      obtain ⟨hu, hc⟩ := hw_10
      rw [in_nat2 (by omega)] at hc
      obtain ⟨h91, h92⟩ := Prod.mk.inj hu
      have h91 := h91.symm
      subst h91
      have h92 := h92.symm
      subst h92
      rcases hc with ⟨k1, w9, k2, k3⟩ | ⟨k1, k2⟩
      · skip
        subst k1
        subst k3
        refine lv_if_eq (tgt := 65) hx hb dX8_value_53 (by decide) (fun c_11 => absurd c_11 (by decide)) (fun c_11 => ?_)
        refine lv_aload_n hx hb dX8_value_56 rfl (lv_at hl 0 rfl) ?_
        refine m_get (v := .ref (md G 46)) hx hb htu wu_in hown hK hP 46 (by decide) (htu _ U_190) rfl rfl dX8_value_57 ?_
        refine lv_iload_n hx hb dX8_value_60 rfl (lv_at hl 1 rfl) ?_
        refine m_bald (j := w9) (v := F_4 46 w9) hx hb hK hP 28 46 rfl (by omega) (by decide) rfl dX8_value_61 ?_
        refine lv_goto (tgt := 67) hx hb dX8_value_62 (by decide) ?_
        exact m_iret (v := F_4 46 w9) hx hb hr hK hP hS hK9 dX8_value_67 hlocks
      · skip
        subst k1
        refine lv_if_eq (tgt := 65) hx hb dX8_value_53 (by decide) (fun c_12 => ?_) (fun c_12 => absurd (by decide) c_12)
        refine lv_bipush (v := (-9)) hx hb dX8_value_65 (by decide) ?_
        exact m_iret (v := (-9)) hx hb hr hK hP hS hK9 dX8_value_67 hlocks
    · skip
      refine lv_aload_n hx hb dX8_value_35 rfl (lv_at hl 0 rfl) ?_
      refine m_get (v := .int (nI b9)) hx hb htu wu_in hown hK hP 47 (by decide) (htu _ U_187) rfl (m_v b9d) dX8_value_36 ?_
      refine lv_goto (tgt := 67) hx hb dX8_value_39 (by decide) ?_
      exact m_iret (v := nI b9) hx hb hr hK hP hS hK9 dX8_value_67 hlocks
  · skip
    refine lv_bipush (v := (-9)) hx hb dX8_value_7 (by decide) ?_
    exact m_iret (v := (-9)) hx hb hr hK hP hS Kq.rf dX8_value_9 hlocks

