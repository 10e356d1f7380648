theorem dX8_tell_0 : decode cX8_tell 0 = .ok (.aload_n 0, 1) := by decide +kernel
theorem dX8_tell_1 : decode cX8_tell 1 = .ok (.getfield 298, 3) := by decide +kernel
theorem dX8_tell_4 : decode cX8_tell 4 = .ok (.aload_n 0, 1) := by decide +kernel
theorem dX8_tell_5 : decode cX8_tell 5 = .ok (.getfield 301, 3) := by decide +kernel
theorem dX8_tell_8 : decode cX8_tell 8 = .ok (.if_icmp .ne 4, 3) := by decide +kernel
theorem dX8_tell_11 : decode cX8_tell 11 = .ok (.return_, 1) := by decide +kernel
theorem dX8_tellVariable_0 : decode cX8_tellVariable 0 = .ok (.iconst 2, 1) := by decide +kernel
theorem dX8_tellVariable_1 : decode cX8_tellVariable 1 = .ok (.iload_n 1, 1) := by decide +kernel
theorem dX8_tellVariable_2 : decode cX8_tellVariable 2 = .ok (.imul, 1) := by decide +kernel
theorem dX8_tellVariable_3 : decode cX8_tellVariable 3 = .ok (.iload_n 2, 1) := by decide +kernel
theorem dX8_tellVariable_4 : decode cX8_tellVariable 4 = .ok (.iadd, 1) := by decide +kernel
theorem dX8_tellVariable_5 : decode cX8_tellVariable 5 = .ok (.istore_n 3, 1) := by decide +kernel
theorem dX8_tellVariable_6 : decode cX8_tellVariable 6 = .ok (.aload_n 0, 1) := by decide +kernel
theorem dX8_tellVariable_7 : decode cX8_tellVariable 7 = .ok (.getfield 96, 3) := by decide +kernel
theorem dX8_tellVariable_10 : decode cX8_tellVariable 10 = .ok (.iload_n 3, 1) := by decide +kernel
theorem dX8_tellVariable_11 : decode cX8_tellVariable 11 = .ok (.baload, 1) := by decide +kernel
theorem dX8_tellVariable_12 : decode cX8_tellVariable 12 = .ok (.ifCond .ne 12, 3) := by decide +kernel
theorem dX8_tellVariable_24 : decode cX8_tellVariable 24 = .ok (.iconst 1, 1) := by decide +kernel
theorem dX8_tellVariable_25 : decode cX8_tellVariable 25 = .ok (.goto 4, 3) := by decide +kernel
theorem dX8_tellVariable_29 : decode cX8_tellVariable 29 = .ok (.istore 4, 2) := by decide +kernel
theorem dX8_tellVariable_31 : decode cX8_tellVariable 31 = .ok (.iload 4, 2) := by decide +kernel
theorem dX8_tellVariable_33 : decode cX8_tellVariable 33 = .ok (.ifCond .ne 18, 3) := by decide +kernel
theorem dX8_tellVariable_51 : decode cX8_tellVariable 51 = .ok (.aload_n 0, 1) := by decide +kernel
theorem dX8_tellVariable_52 : decode cX8_tellVariable 52 = .ok (.bipush 39, 2) := by decide +kernel
theorem dX8_tellVariable_54 : decode cX8_tellVariable 54 = .ok (.invokevirtual 304, 3) := by decide +kernel
theorem dX8_tellVariable_57 : decode cX8_tellVariable 57 = .ok (.aload_n 0, 1) := by decide +kernel
theorem dX8_tellVariable_58 : decode cX8_tellVariable 58 = .ok (.iload_n 1, 1) := by decide +kernel
theorem dX8_tellVariable_59 : decode cX8_tellVariable 59 = .ok (.invokevirtual 316, 3) := by decide +kernel
theorem dX8_tellVariable_62 : decode cX8_tellVariable 62 = .ok (.iload 4, 2) := by decide +kernel
theorem dX8_tellVariable_64 : decode cX8_tellVariable 64 = .ok (.ifCond .ne 72, 3) := by decide +kernel
theorem dX8_tellVariable_136 : decode cX8_tellVariable 136 = .ok (.return_, 1) := by decide +kernel
theorem dX8_tellVariable_15 : decode cX8_tellVariable 15 = .ok (.aload_n 0, 1) := by decide +kernel
theorem dX8_tellVariable_16 : decode cX8_tellVariable 16 = .ok (.getfield 62, 3) := by decide +kernel
theorem dX8_tellVariable_19 : decode cX8_tellVariable 19 = .ok (.iload_n 3, 1) := by decide +kernel
theorem dX8_tellVariable_20 : decode cX8_tellVariable 20 = .ok (.iaload, 1) := by decide +kernel
theorem dX8_tellVariable_21 : decode cX8_tellVariable 21 = .ok (.ifCond .ne 7, 3) := by decide +kernel
theorem dX8_tellVariable_28 : decode cX8_tellVariable 28 = .ok (.iconst 0, 1) := by decide +kernel
theorem dX8_tellVariable_36 : decode cX8_tellVariable 36 = .ok (.aload_n 0, 1) := by decide +kernel
theorem dX8_tellVariable_37 : decode cX8_tellVariable 37 = .ok (.iload_n 2, 1) := by decide +kernel
theorem dX8_tellVariable_38 : decode cX8_tellVariable 38 = .ok (.ifCond .ne 8, 3) := by decide +kernel
theorem dX8_tellVariable_46 : decode cX8_tellVariable 46 = .ok (.bipush 38, 2) := by decide +kernel
theorem dX8_tellVariable_48 : decode cX8_tellVariable 48 = .ok (.invokevirtual 304, 3) := by decide +kernel
theorem dX8_tellVariable_67 : decode cX8_tellVariable 67 = .ok (.aload_n 0, 1) := by decide +kernel
theorem dX8_tellVariable_68 : decode cX8_tellVariable 68 = .ok (.getfield 96, 3) := by decide +kernel
theorem dX8_tellVariable_71 : decode cX8_tellVariable 71 = .ok (.iload_n 3, 1) := by decide +kernel
theorem dX8_tellVariable_72 : decode cX8_tellVariable 72 = .ok (.iconst 1, 1) := by decide +kernel
theorem dX8_tellVariable_73 : decode cX8_tellVariable 73 = .ok (.bastore, 1) := by decide +kernel
theorem dX8_tellVariable_74 : decode cX8_tellVariable 74 = .ok (.aload_n 0, 1) := by decide +kernel
theorem dX8_tellVariable_75 : decode cX8_tellVariable 75 = .ok (.getfield 56, 3) := by decide +kernel
theorem dX8_tellVariable_78 : decode cX8_tellVariable 78 = .ok (.iload_n 3, 1) := by decide +kernel
theorem dX8_tellVariable_79 : decode cX8_tellVariable 79 = .ok (.iaload, 1) := by decide +kernel
theorem dX8_tellVariable_80 : decode cX8_tellVariable 80 = .ok (.istore 5, 2) := by decide +kernel
theorem dX8_tellVariable_82 : decode cX8_tellVariable 82 = .ok (.iconst 0, 1) := by decide +kernel
theorem dX8_tellVariable_83 : decode cX8_tellVariable 83 = .ok (.istore 6, 2) := by decide +kernel
theorem dX8_tellVariable_85 : decode cX8_tellVariable 85 = .ok (.iload 6, 2) := by decide +kernel
theorem dX8_tellVariable_87 : decode cX8_tellVariable 87 = .ok (.aload_n 0, 1) := by decide +kernel
theorem dX8_tellVariable_88 : decode cX8_tellVariable 88 = .ok (.getfield 62, 3) := by decide +kernel
theorem dX8_tellVariable_91 : decode cX8_tellVariable 91 = .ok (.iload_n 3, 1) := by decide +kernel
theorem dX8_tellVariable_92 : decode cX8_tellVariable 92 = .ok (.iaload, 1) := by decide +kernel
theorem dX8_tellVariable_93 : decode cX8_tellVariable 93 = .ok (.if_icmp .ge 30, 3) := by decide +kernel
theorem dX8_tellVariable_123 : decode cX8_tellVariable 123 = .ok (.aload_n 0, 1) := by decide +kernel
theorem dX8_tellVariable_124 : decode cX8_tellVariable 124 = .ok (.getfield 96, 3) := by decide +kernel
theorem dX8_tellVariable_127 : decode cX8_tellVariable 127 = .ok (.iload_n 3, 1) := by decide +kernel
theorem dX8_tellVariable_128 : decode cX8_tellVariable 128 = .ok (.iconst 0, 1) := by decide +kernel
theorem dX8_tellVariable_129 : decode cX8_tellVariable 129 = .ok (.bastore, 1) := by decide +kernel
theorem dX8_tellVariable_130 : decode cX8_tellVariable 130 = .ok (.aload_n 0, 1) := by decide +kernel
theorem dX8_tellVariable_131 : decode cX8_tellVariable 131 = .ok (.bipush 46, 2) := by decide +kernel
theorem dX8_tellVariable_133 : decode cX8_tellVariable 133 = .ok (.invokevirtual 304, 3) := by decide +kernel
theorem dX8_tellVariable_96 : decode cX8_tellVariable 96 = .ok (.aload_n 0, 1) := by decide +kernel
theorem dX8_tellVariable_97 : decode cX8_tellVariable 97 = .ok (.aload_n 0, 1) := by decide +kernel
theorem dX8_tellVariable_98 : decode cX8_tellVariable 98 = .ok (.getfield 50, 3) := by decide +kernel
theorem dX8_tellVariable_101 : decode cX8_tellVariable 101 = .ok (.iload 5, 2) := by decide +kernel
theorem dX8_tellVariable_103 : decode cX8_tellVariable 103 = .ok (.iaload, 1) := by decide +kernel
theorem dX8_tellVariable_104 : decode cX8_tellVariable 104 = .ok (.iload_n 2, 1) := by decide +kernel
theorem dX8_tellVariable_105 : decode cX8_tellVariable 105 = .ok (.invokevirtual 310, 3) := by decide +kernel
theorem dX8_tellVariable_108 : decode cX8_tellVariable 108 = .ok (.aload_n 0, 1) := by decide +kernel
theorem dX8_tellVariable_109 : decode cX8_tellVariable 109 = .ok (.getfield 53, 3) := by decide +kernel
theorem dX8_tellVariable_112 : decode cX8_tellVariable 112 = .ok (.iload 5, 2) := by decide +kernel
theorem dX8_tellVariable_114 : decode cX8_tellVariable 114 = .ok (.iaload, 1) := by decide +kernel
theorem dX8_tellVariable_115 : decode cX8_tellVariable 115 = .ok (.istore 5, 2) := by decide +kernel
theorem dX8_tellVariable_117 : decode cX8_tellVariable 117 = .ok (.iinc 6 1, 3) := by decide +kernel
theorem dX8_tellVariable_120 : decode cX8_tellVariable 120 = .ok (.goto (-35), 3) := by decide +kernel
theorem dX8_tellVariable_41 : decode cX8_tellVariable 41 = .ok (.bipush 124, 2) := by decide +kernel
theorem dX8_tellVariable_43 : decode cX8_tellVariable 43 = .ok (.goto 5, 3) := by decide +kernel
theorem dX8_tell_12 : decode cX8_tell 12 = .ok (.aload_n 0, 1) := by decide +kernel
theorem dX8_tell_13 : decode cX8_tell 13 = .ok (.getfield 28, 3) := by decide +kernel
theorem dX8_tell_16 : decode cX8_tell 16 = .ok (.iload_n 1, 1) := by decide +kernel
theorem dX8_tell_17 : decode cX8_tell 17 = .ok (.iaload, 1) := by decide +kernel
theorem dX8_tell_18 : decode cX8_tell 18 = .ok (.tableswitch 144 0 2 #[26, 44, 77], 26) := by decide +kernel
theorem dX8_tell_44 : decode cX8_tell 44 = .ok (.aload_n 0, 1) := by decide +kernel
theorem dX8_tell_45 : decode cX8_tell 45 = .ok (.iload_n 1, 1) := by decide +kernel
theorem dX8_tell_46 : decode cX8_tell 46 = .ok (.ifCond .ne 8, 3) := by decide +kernel
theorem dX8_tell_54 : decode cX8_tell 54 = .ok (.bipush 116, 2) := by decide +kernel
theorem dX8_tell_56 : decode cX8_tell 56 = .ok (.invokevirtual 304, 3) := by decide +kernel
theorem dX8_tell_59 : decode cX8_tell 59 = .ok (.goto 114, 3) := by decide +kernel
theorem dX8_tell_173 : decode cX8_tell 173 = .ok (.return_, 1) := by decide +kernel
theorem dX8_tell_49 : decode cX8_tell 49 = .ok (.bipush 119, 2) := by decide +kernel
theorem dX8_tell_51 : decode cX8_tell 51 = .ok (.goto 5, 3) := by decide +kernel
theorem dX8_tell_62 : decode cX8_tell 62 = .ok (.aload_n 0, 1) := by decide +kernel
theorem dX8_tell_63 : decode cX8_tell 63 = .ok (.bipush 62, 2) := by decide +kernel
theorem dX8_tell_65 : decode cX8_tell 65 = .ok (.invokevirtual 304, 3) := by decide +kernel
theorem dX8_tell_68 : decode cX8_tell 68 = .ok (.aload_n 0, 1) := by decide +kernel
theorem dX8_tell_69 : decode cX8_tell 69 = .ok (.aload_n 0, 1) := by decide +kernel
theorem dX8_tell_70 : decode cX8_tell 70 = .ok (.getfield 34, 3) := by decide +kernel
theorem dX8_tell_73 : decode cX8_tell 73 = .ok (.iload_n 1, 1) := by decide +kernel
theorem dX8_tell_74 : decode cX8_tell 74 = .ok (.iaload, 1) := by decide +kernel
theorem dX8_tell_75 : decode cX8_tell 75 = .ok (.iconst 1, 1) := by decide +kernel
theorem dX8_tell_76 : decode cX8_tell 76 = .ok (.iload_n 2, 1) := by decide +kernel
theorem dX8_tell_77 : decode cX8_tell 77 = .ok (.isub, 1) := by decide +kernel
theorem dX8_tell_78 : decode cX8_tell 78 = .ok (.invokevirtual 310, 3) := by decide +kernel
theorem dX8_tell_81 : decode cX8_tell 81 = .ok (.aload_n 0, 1) := by decide +kernel
theorem dX8_tell_82 : decode cX8_tell 82 = .ok (.aload_n 0, 1) := by decide +kernel
theorem dX8_tell_83 : decode cX8_tell 83 = .ok (.getfield 37, 3) := by decide +kernel
theorem dX8_tell_86 : decode cX8_tell 86 = .ok (.iload_n 1, 1) := by decide +kernel
theorem dX8_tell_87 : decode cX8_tell 87 = .ok (.iaload, 1) := by decide +kernel
theorem dX8_tell_88 : decode cX8_tell 88 = .ok (.iload_n 2, 1) := by decide +kernel
theorem dX8_tell_89 : decode cX8_tell 89 = .ok (.invokevirtual 310, 3) := by decide +kernel
theorem dX8_tell_92 : decode cX8_tell 92 = .ok (.goto 81, 3) := by decide +kernel
theorem dX8_tell_95 : decode cX8_tell 95 = .ok (.aload_n 0, 1) := by decide +kernel
theorem dX8_tell_96 : decode cX8_tell 96 = .ok (.bipush 123, 2) := by decide +kernel
theorem dX8_tell_98 : decode cX8_tell 98 = .ok (.invokevirtual 304, 3) := by decide +kernel
theorem dX8_tell_101 : decode cX8_tell 101 = .ok (.iconst 0, 1) := by decide +kernel
theorem dX8_tell_102 : decode cX8_tell 102 = .ok (.istore_n 3, 1) := by decide +kernel
theorem dX8_tell_103 : decode cX8_tell 103 = .ok (.iload_n 3, 1) := by decide +kernel
theorem dX8_tell_104 : decode cX8_tell 104 = .ok (.aload_n 0, 1) := by decide +kernel
theorem dX8_tell_105 : decode cX8_tell 105 = .ok (.getfield 34, 3) := by decide +kernel
theorem dX8_tell_108 : decode cX8_tell 108 = .ok (.iload_n 1, 1) := by decide +kernel
theorem dX8_tell_109 : decode cX8_tell 109 = .ok (.iaload, 1) := by decide +kernel
theorem dX8_tell_110 : decode cX8_tell 110 = .ok (.if_icmp .ge 43, 3) := by decide +kernel
theorem dX8_tell_153 : decode cX8_tell 153 = .ok (.aload_n 0, 1) := by decide +kernel
theorem dX8_tell_154 : decode cX8_tell 154 = .ok (.bipush 125, 2) := by decide +kernel
theorem dX8_tell_156 : decode cX8_tell 156 = .ok (.invokevirtual 304, 3) := by decide +kernel
theorem dX8_tell_159 : decode cX8_tell 159 = .ok (.goto 14, 3) := by decide +kernel
theorem dX8_tell_113 : decode cX8_tell 113 = .ok (.aload_n 0, 1) := by decide +kernel
theorem dX8_tell_114 : decode cX8_tell 114 = .ok (.bipush 97, 2) := by decide +kernel
theorem dX8_tell_116 : decode cX8_tell 116 = .ok (.aload_n 0, 1) := by decide +kernel
theorem dX8_tell_117 : decode cX8_tell 117 = .ok (.getfield 40, 3) := by decide +kernel
theorem dX8_tell_120 : decode cX8_tell 120 = .ok (.bipush 6, 2) := by decide +kernel
theorem dX8_tell_122 : decode cX8_tell 122 = .ok (.iload_n 1, 1) := by decide +kernel
theorem dX8_tell_123 : decode cX8_tell 123 = .ok (.imul, 1) := by decide +kernel
theorem dX8_tell_124 : decode cX8_tell 124 = .ok (.iload_n 3, 1) := by decide +kernel
theorem dX8_tell_125 : decode cX8_tell 125 = .ok (.iadd, 1) := by decide +kernel
theorem dX8_tell_126 : decode cX8_tell 126 = .ok (.iaload, 1) := by decide +kernel
theorem dX8_tell_127 : decode cX8_tell 127 = .ok (.iadd, 1) := by decide +kernel
theorem dX8_tell_128 : decode cX8_tell 128 = .ok (.invokevirtual 304, 3) := by decide +kernel
theorem dX8_tell_131 : decode cX8_tell 131 = .ok (.aload_n 0, 1) := by decide +kernel
theorem dX8_tell_132 : decode cX8_tell 132 = .ok (.aload_n 0, 1) := by decide +kernel
theorem dX8_tell_133 : decode cX8_tell 133 = .ok (.getfield 43, 3) := by decide +kernel
theorem dX8_tell_136 : decode cX8_tell 136 = .ok (.bipush 6, 2) := by decide +kernel
theorem dX8_tell_138 : decode cX8_tell 138 = .ok (.iload_n 1, 1) := by decide +kernel
theorem dX8_tell_139 : decode cX8_tell 139 = .ok (.imul, 1) := by decide +kernel
theorem dX8_tell_140 : decode cX8_tell 140 = .ok (.iload_n 3, 1) := by decide +kernel
theorem dX8_tell_141 : decode cX8_tell 141 = .ok (.iadd, 1) := by decide +kernel
theorem dX8_tell_142 : decode cX8_tell 142 = .ok (.iaload, 1) := by decide +kernel
theorem dX8_tell_143 : decode cX8_tell 143 = .ok (.iload_n 2, 1) := by decide +kernel
theorem dX8_tell_144 : decode cX8_tell 144 = .ok (.invokevirtual 310, 3) := by decide +kernel
theorem dX8_tell_147 : decode cX8_tell 147 = .ok (.iinc 3 1, 3) := by decide +kernel
theorem dX8_tell_150 : decode cX8_tell 150 = .ok (.goto (-47), 3) := by decide +kernel
theorem dX8_tell_162 : decode cX8_tell 162 = .ok (.aload_n 0, 1) := by decide +kernel
theorem dX8_tell_163 : decode cX8_tell 163 = .ok (.aload_n 0, 1) := by decide +kernel
theorem dX8_tell_164 : decode cX8_tell 164 = .ok (.getfield 34, 3) := by decide +kernel
theorem dX8_tell_167 : decode cX8_tell 167 = .ok (.iload_n 1, 1) := by decide +kernel
theorem dX8_tell_168 : decode cX8_tell 168 = .ok (.iaload, 1) := by decide +kernel
theorem dX8_tell_169 : decode cX8_tell 169 = .ok (.iload_n 2, 1) := by decide +kernel
theorem dX8_tell_170 : decode cX8_tell 170 = .ok (.invokevirtual 313, 3) := by decide +kernel
def mTellAt (d : Nat) : Prop := ∀ (l : Launch) (G : mG) (hDD : mDD G) (o : Nat → Int32) (F : Nat → Nat → Int32) (z : aS) (ix : Nat → Nat → Nat) (bm : Nat) (mo : Nat) (t : Nat) (way : Nat) (hR : MR z ix o F) (h47 : o 47 = nI bm) (h48 : o 48 = nI mo) (hmo : mo ≤ 400) (hbm : bm ≤ mo) (hd : mo ≤ bm + d) (ht : t < nT z) (hw2 : way < 2) (sz : Nat), Met l yX8_tell (wU yX8_tell cX8_tell 4 none) { frames := 2 * d + 2, cells := 0, slots := 0, locals := 50 * d + 100 } (mPc G o F sz [.ref (mh G), .int (nI t), .int (nI way)]) (mQv G sz (fun u => TL mo bm o F u)) 0 0 (mA G sz)

def mTellVAt (d : Nat) : Prop := ∀ (l : Launch) (G : mG) (hDD : mDD G) (o : Nat → Int32) (F : Nat → Nat → Int32) (z : aS) (ix : Nat → Nat → Nat) (bm : Nat) (mo : Nat) (v : Nat) (way : Nat) (hR : MR z ix o F) (h47 : o 47 = nI bm) (h48 : o 48 = nI mo) (hmo : mo ≤ 400) (hbm : bm < mo) (hd : mo ≤ bm + (d + 1)) (hv9 : v < nV z) (hw2 : way < 2) (sz : Nat), Met l yX8_tellVariable (wU yX8_tellVariable cX8_tellVariable 7 none) { frames := 2 * (d + 1) + 1, cells := 0, slots := 0, locals := 50 * (d + 1) + 74 } (mPc G o F sz [.ref (mh G), .int (nI v), .int (nI way)]) (mQv G sz (fun u => TL mo bm o F u)) 0 0 (mA G sz)

set_option maxHeartbeats 4000000 in
set_option maxRecDepth 100000 in
/-- tell, no room -/
theorem m_tell_0 (l : Launch) (G : mG) (hDD : mDD G) (o : Nat → Int32) (F : Nat → Nat → Int32) (z : aS) (ix : Nat → Nat → Nat) (bm : Nat) (mo : Nat) (t : Nat) (way : Nat) (hR : MR z ix o F) (h47 : o 47 = nI bm) (h48 : o 48 = nI mo) (hmo : mo ≤ 400) (hbm : bm ≤ mo) (hd : mo ≤ bm + 0) (ht : t < nT z) (hw2 : way < 2) (sz : Nat) : Met l yX8_tell (wU yX8_tell cX8_tell 4 none) { frames := 2 * 0 + 2, cells := 0, slots := 0, locals := 50 * 0 + 100 } (mPc G o F sz [.ref (mh G), .int (nI t), .int (nI way)]) (mQv G sz (fun u => TL mo bm o F u)) 0 0 (mA G sz) := by
  refine Met.ofW (cc := cX8_tell) (maxL := 4) (ret := none) (by decide) rfl ?_
  intro p e s m args below meth c s₁ B hml hv
  obtain ⟨rfl, hsz, hP, hK⟩ := hv
  have hx := B.exec
  have hb := B.bytes
  have hr := B.returns
  have htu : ∀ w ∈ WU, w.before _ s = true := fun w h => atoms_spec (ws := (wU yX8_tell cX8_tell 4 none)) B.pre w (List.mem_cons_of_mem _ h)
  have hown : s.vm.findClass RX8 = some m.cls := findClass_of_methodNamed B.named
  have hlocks := B.notSynchronized
  subst hsz
  have hS : va_S (mA G s.heap.size) s.heap s.heap [] := va_S.rf
  have hl := lv_entry ([.ref (mh G), .int (nI t), .int (nI way)]) (n := 4) (Nat.le_of_ble_eq_true rfl)
  rw [lg_entry_eq]
  generalize (lg_sl ([.ref (mh G), .int (nI t), .int (nI way)]) ++ List.replicate (4 - (lg_sl ([.ref (mh G), .int (nI t), .int (nI way)])).length) Slot.unset).toArray = ls at hl ⊢
  have hl : lv_has ls 4 [(0, .ref (mh G)), (1, .int (nI t)), (2, .int (nI way))] := hl
  obtain ⟨H, hHe⟩ : ∃ H : Heap, H = s.heap := ⟨_, rfl⟩
  rw [← hHe] at hP
  have hS : va_S (mA G s.heap.size) s.heap H [] := by rw [hHe]; exact va_S.rf
  refine W.heq hHe ?_
  refine lv_aload_n hx hb dX8_tell_0 rfl (lv_at hl 0 rfl) ?_
  refine m_get (v := .int (nI bm)) hx hb htu wu_in hown hK hP 47 (by decide) (htu _ U_187) rfl (m_v h47) dX8_tell_1 ?_
  refine lv_aload_n hx hb dX8_tell_4 rfl (lv_at hl 0 rfl) ?_
  refine m_get (v := .int (nI mo)) hx hb htu wu_in hown hK hP 48 (by decide) (htu _ U_188) rfl (m_v h48) dX8_tell_5 ?_
  refine lv_icmp_ne (tgt := 12) hx hb dX8_tell_8 (by decide) (fun c_1 => absurd (congrArg nI (show bm = mo by omega)) c_1) (fun c_1 => ?_)
  exact m_vret hx hb hr hK hP hS ⟨bm, Nat.le_refl _, hbm, h47, Kq.rf⟩ dX8_tell_11 hlocks

set_option maxHeartbeats 4000000 in
set_option maxRecDepth 100000 in
/-- tellVariable -/
theorem m_tellV_s (l : Launch) (G : mG) (hDD : mDD G) (o : Nat → Int32) (F : Nat → Nat → Int32) (d : Nat) (z : aS) (ix : Nat → Nat → Nat) (bm : Nat) (mo : Nat) (v : Nat) (way : Nat) (ih : mTellAt d) (hR : MR z ix o F) (h47 : o 47 = nI bm) (h48 : o 48 = nI mo) (hmo : mo ≤ 400) (hbm : bm < mo) (hd : mo ≤ bm + (d + 1)) (hv9 : v < nV z) (hw2 : way < 2) (sz : Nat) : Met l yX8_tellVariable (wU yX8_tellVariable cX8_tellVariable 7 none) { frames := 2 * (d + 1) + 1, cells := 0, slots := 0, locals := 50 * (d + 1) + 74 } (mPc G o F sz [.ref (mh G), .int (nI v), .int (nI way)]) (mQv G sz (fun u => TL mo bm o F u)) 0 0 (mA G sz) := by
  refine Met.ofW (cc := cX8_tellVariable) (maxL := 7) (ret := none) (by decide) rfl ?_
  intro p e s m args below meth c s₁ B hml hv
  obtain ⟨rfl, hsz, hP, hK⟩ := hv
  have hx := B.exec
  have hb := B.bytes
  have hr := B.returns
  have htu : ∀ w ∈ WU, w.before _ s = true := fun w h => atoms_spec (ws := (wU yX8_tellVariable cX8_tellVariable 7 none)) B.pre w (List.mem_cons_of_mem _ h)
  have hown : s.vm.findClass RX8 = some m.cls := findClass_of_methodNamed B.named
  have hlocks := B.notSynchronized
  subst hsz
  have hS : va_S (mA G s.heap.size) s.heap s.heap [] := va_S.rf
  have hl := lv_entry ([.ref (mh G), .int (nI v), .int (nI way)]) (n := 7) (Nat.le_of_ble_eq_true rfl)
  rw [lg_entry_eq]
  generalize (lg_sl ([.ref (mh G), .int (nI v), .int (nI way)]) ++ List.replicate (7 - (lg_sl ([.ref (mh G), .int (nI v), .int (nI way)])).length) Slot.unset).toArray = ls at hl ⊢
  have hl : lv_has ls 7 [(0, .ref (mh G)), (1, .int (nI v)), (2, .int (nI way))] := hl
  obtain ⟨H, hHe⟩ : ∃ H : Heap, H = s.heap := ⟨_, rfl⟩
  rw [← hHe] at hP
  have hS : va_S (mA G s.heap.size) s.heap H [] := by rw [hHe]; exact va_S.rf
  refine W.heq hHe ?_
  obtain ⟨b1, b2, b3, b4, b5, b6, b7, b8⟩ := hR.2.1
  obtain ⟨w1_, w2_, w3_, w4_, w5_⟩ := hR.2.2.2.2.2.2.1 v hv9 way hw2
  refine lv_iconst (v := 2) hx hb dX8_tellVariable_0 (by decide) ?_
  refine lv_iload_n hx hb dX8_tellVariable_1 rfl (lv_at hl 1 rfl) ?_
  refine lv_imul hx hb dX8_tellVariable_2 ?_
  refine m_top (y := nI (2 * v)) (pk_mul 2 v) ?_
  refine lv_iload_n hx hb dX8_tellVariable_3 rfl (lv_at hl 2 rfl) ?_
  refine lv_iadd hx hb dX8_tellVariable_4 ?_
  refine m_top (y := nI (2 * v + way)) (nI_add (2 * v) way) ?_
  refine lv_istore_n (lv' := [(3, .int (nI (2 * v + way))), (0, .ref (mh G)), (1, .int (nI v)), (2, .int (nI way))]) hx hb dX8_tellVariable_5 rfl hl (by decide) rfl (fun ls hl => ?_)
  refine lv_aload_n hx hb dX8_tellVariable_6 rfl (lv_at hl 1 rfl) ?_
  refine m_get (v := .ref (md G 49)) hx hb htu wu_in hown hK hP 49 (by decide) (htu _ U_189) rfl rfl dX8_tellVariable_7 ?_
  refine lv_iload_n hx hb dX8_tellVariable_10 rfl (lv_at hl 0 rfl) ?_
  refine m_zald (j := 2 * v + way) (v := F 49 (2 * v + way)) hx hb hK hP 29 49 rfl (by omega) (by decide) rfl dX8_tellVariable_11 ?_
  refine lv_if_ne (tgt := 24) hx hb dX8_tellVariable_12 (by decide) (fun c_1 => ?_) (fun c_1 => ?_)
  · skip
    refine lv_iconst (v := 1) hx hb dX8_tellVariable_24 (by decide) ?_
    refine lv_goto (tgt := 29) hx hb dX8_tellVariable_25 (by decide) ?_
    refine lv_istore (lv' := [(4, .int 1), (3, .int (nI (2 * v + way))), (0, .ref (mh G)), (1, .int (nI v)), (2, .int (nI way))]) hx hb dX8_tellVariable_29 hl (by decide) rfl (fun ls hl => ?_)
    refine lv_iload hx hb dX8_tellVariable_31 (lv_at hl 0 rfl) ?_
    refine lv_if_ne (tgt := 51) hx hb dX8_tellVariable_33 (by decide) (fun c_2 => ?_) (fun c_2 => absurd c_2 (by decide))
    refine lv_aload_n hx hb dX8_tellVariable_51 rfl (lv_at hl 2 rfl) ?_
    refine lv_bipush (v := 39) hx hb dX8_tellVariable_52 (by decide) ?_
    refine m_cv (m_runV (As := [.int 39]) (rest := []) ⟨hx, hb, hml, hown, htu⟩ (m_out l G hDD o F bm mo 39 h47 ((((Kq.rf (L := LTl) (o := o) (F := F)) 48 (by decide)).1.trans h48)) hmo ((by omega)) H.size) (cwV 1 htu gU_X8_out rfl rfl rfl (by decide +kernel) ⟨show 0 + 1 ≤ 2 * (d + 1) + 1 by omega, show 8 + (2 + 11) + 0 ≤ 50 * (d + 1) + 74 by omega⟩) hP hK rfl hl.1 rfl (lv_room (Nat.le_of_ble_eq_true rfl)) dX8_tellVariable_54) hS (fun o_4 F_5 H locs hw_6 hP hS => ?_)
    try dsimp only at hw_6
    obtain ⟨b_7, b_7a, b_7b, b_7c, b_7d, b_7e⟩ := TL.out h47 (by omega) hw_6
    have b_7q : Kq LTl o F (o_4, F_5) := (Kq.rf (L := LTl) (o := o) (F := F)).tr b_7e
    have b_7l : bm < b_7 := by omega
    refine lv_aload_n hx hb dX8_tellVariable_57 rfl (lv_at hl 2 rfl) ?_
    refine lv_iload_n hx hb dX8_tellVariable_58 rfl (lv_at hl 3 rfl) ?_
    refine m_cv (m_runV (As := [.int (nI v)]) (rest := []) ⟨hx, hb, hml, hown, htu⟩ (m_outNumber l G hDD o_4 F_5 b_7 mo (nI v) b_7d (((b_7q 48 (by decide)).1.trans h48)) hmo ((by omega)) H.size) (cwV 1 htu gU_X8_outNumber rfl rfl rfl (by decide +kernel) ⟨show 1 + 1 ≤ 2 * (d + 1) + 1 by omega, show 8 + (6 + 11) + 21 ≤ 50 * (d + 1) + 74 by omega⟩) hP hK rfl hl.1 rfl (lv_room (Nat.le_of_ble_eq_true rfl)) dX8_tellVariable_59) hS (fun o_9 F_10 H locs hw_11 hP hS => ?_)
    try dsimp only at hw_11
    obtain ⟨b_12, b_12a, b_12b, b_12d, b_12e⟩ := hw_11
    have b_12q : Kq LTl o F (o_9, F_10) := b_7q.tr b_12e
    have b_12R := hR.tell b_12q
    refine lv_iload hx hb dX8_tellVariable_62 (lv_at hl 0 rfl) ?_
    refine lv_if_ne (tgt := 136) hx hb dX8_tellVariable_64 (by decide) (fun c_13 => ?_) (fun c_13 => absurd c_13 (by decide))
    exact m_vret hx hb hr hK hP hS ⟨b_12, by omega, by omega, b_12d, b_12q⟩ dX8_tellVariable_136 hlocks
  · skip
    refine lv_aload_n hx hb dX8_tellVariable_15 rfl (lv_at hl 1 rfl) ?_
    refine m_get (v := .ref (md G 21)) hx hb htu wu_in hown hK hP 21 (by decide) (htu _ U_116) rfl rfl dX8_tellVariable_16 ?_
    refine lv_iload_n hx hb dX8_tellVariable_19 rfl (lv_at hl 0 rfl) ?_
    refine m_ald (j := 2 * v + way) (v := nI ((row z way (z.1 6 v)).length)) hx hb hK hP 18 21 rfl (by omega) (by decide) w1_ dX8_tellVariable_20 ?_
    refine lv_if_ne (tgt := 28) hx hb dX8_tellVariable_21 (by decide) (fun c_14 => ?_) (fun c_14 => ?_)
    · skip
      have nc_14 : ¬ (row z way (z.1 6 v)).length = 0 := fun h9 => c_14 ((nI_eq (a := (row z way (z.1 6 v)).length) (b := 0) (by omega) (by omega)).mpr h9)
      refine lv_iconst (v := 0) hx hb dX8_tellVariable_28 (by decide) ?_
      refine lv_istore (lv' := [(4, .int 0), (3, .int (nI (2 * v + way))), (0, .ref (mh G)), (1, .int (nI v)), (2, .int (nI way))]) hx hb dX8_tellVariable_29 hl (by decide) rfl (fun ls hl => ?_)
      refine lv_iload hx hb dX8_tellVariable_31 (lv_at hl 0 rfl) ?_
      refine lv_if_ne (tgt := 51) hx hb dX8_tellVariable_33 (by decide) (fun c_15 => absurd (by decide) c_15) (fun c_15 => ?_)
      refine lv_aload_n hx hb dX8_tellVariable_36 rfl (lv_at hl 2 rfl) ?_
      refine lv_iload_n hx hb dX8_tellVariable_37 rfl (lv_at hl 4 rfl) ?_
      refine lv_if_ne (tgt := 46) hx hb dX8_tellVariable_38 (by decide) (fun c_16 => ?_) (fun c_16 => ?_)
      · skip
        have nc_16 : ¬ way = 0 := fun h9 => c_16 ((nI_eq (a := way) (b := 0) (by omega) (by omega)).mpr h9)
        refine lv_bipush (v := 38) hx hb dX8_tellVariable_46 (by decide) ?_
        refine m_cv (m_runV (As := [.int 38]) (rest := []) ⟨hx, hb, hml, hown, htu⟩ (m_out l G hDD o F bm mo 38 h47 ((((Kq.rf (L := LTl) (o := o) (F := F)) 48 (by decide)).1.trans h48)) hmo ((by omega)) H.size) (cwV 1 htu gU_X8_out rfl rfl rfl (by decide +kernel) ⟨show 0 + 1 ≤ 2 * (d + 1) + 1 by omega, show 8 + (2 + 11) + 0 ≤ 50 * (d + 1) + 74 by omega⟩) hP hK rfl hl.1 rfl (lv_room (Nat.le_of_ble_eq_true rfl)) dX8_tellVariable_48) hS (fun o_18 F_19 H locs hw_20 hP hS => ?_)
        try dsimp only at hw_20
        obtain ⟨b_21, b_21a, b_21b, b_21c, b_21d, b_21e⟩ := TL.out h47 (by omega) hw_20
        have b_21q : Kq LTl o F (o_18, F_19) := (Kq.rf (L := LTl) (o := o) (F := F)).tr b_21e
        have b_21l : bm < b_21 := by omega
        refine lv_aload_n hx hb dX8_tellVariable_51 rfl (lv_at hl 2 rfl) ?_
        refine lv_bipush (v := 39) hx hb dX8_tellVariable_52 (by decide) ?_
        refine m_cv (m_runV (As := [.int 39]) (rest := []) ⟨hx, hb, hml, hown, htu⟩ (m_out l G hDD o_18 F_19 b_21 mo 39 b_21d (((b_21q 48 (by decide)).1.trans h48)) hmo ((by omega)) H.size) (cwV 1 htu gU_X8_out rfl rfl rfl (by decide +kernel) ⟨show 0 + 1 ≤ 2 * (d + 1) + 1 by omega, show 8 + (2 + 11) + 0 ≤ 50 * (d + 1) + 74 by omega⟩) hP hK rfl hl.1 rfl (lv_room (Nat.le_of_ble_eq_true rfl)) dX8_tellVariable_54) hS (fun o_23 F_24 H locs hw_25 hP hS => ?_)
        try dsimp only at hw_25
        obtain ⟨b_26, b_26a, b_26b, b_26c, b_26d, b_26e⟩ := TL.out b_21d (by omega) hw_25
        have b_26q : Kq LTl o F (o_23, F_24) := b_21q.tr b_26e
        have b_26l : bm < b_26 := by omega
        refine lv_aload_n hx hb dX8_tellVariable_57 rfl (lv_at hl 2 rfl) ?_
        refine lv_iload_n hx hb dX8_tellVariable_58 rfl (lv_at hl 3 rfl) ?_
        refine m_cv (m_runV (As := [.int (nI v)]) (rest := []) ⟨hx, hb, hml, hown, htu⟩ (m_outNumber l G hDD o_23 F_24 b_26 mo (nI v) b_26d (((b_26q 48 (by decide)).1.trans h48)) hmo ((by omega)) H.size) (cwV 1 htu gU_X8_outNumber rfl rfl rfl (by decide +kernel) ⟨show 1 + 1 ≤ 2 * (d + 1) + 1 by omega, show 8 + (6 + 11) + 21 ≤ 50 * (d + 1) + 74 by omega⟩) hP hK rfl hl.1 rfl (lv_room (Nat.le_of_ble_eq_true rfl)) dX8_tellVariable_59) hS (fun o_28 F_29 H locs hw_30 hP hS => ?_)
        try dsimp only at hw_30
        obtain ⟨b_31, b_31a, b_31b, b_31d, b_31e⟩ := hw_30
        have b_31q : Kq LTl o F (o_28, F_29) := b_26q.tr b_31e
        have b_31R := hR.tell b_31q
        refine lv_iload hx hb dX8_tellVariable_62 (lv_at hl 0 rfl) ?_
        refine lv_if_ne (tgt := 136) hx hb dX8_tellVariable_64 (by decide) (fun c_32 => absurd (by decide) c_32) (fun c_32 => ?_)
        refine lv_aload_n hx hb dX8_tellVariable_67 rfl (lv_at hl 2 rfl) ?_
        refine m_get (v := .ref (md G 49)) hx hb htu wu_in hown hK hP 49 (by decide) (htu _ U_189) rfl rfl dX8_tellVariable_68 ?_
        refine lv_iload_n hx hb dX8_tellVariable_71 rfl (lv_at hl 1 rfl) ?_
        refine lv_iconst (v := 1) hx hb dX8_tellVariable_72 (by decide) ?_
        refine m_zast (j := 2 * v + way) (x := 1) hx hb hK hP hDD hS 29 49 rfl (by omega) (by decide) (mW_a49 _ _ _ _ _) dX8_tellVariable_73 (fun H locs hP hS => ?_)
        refine lv_aload_n hx hb dX8_tellVariable_74 rfl (lv_at hl 2 rfl) ?_
        refine m_get (v := .ref (md G 19)) hx hb htu wu_in hown hK hP 19 (by decide) (htu _ U_117) rfl rfl dX8_tellVariable_75 ?_
        refine lv_iload_n hx hb dX8_tellVariable_78 rfl (lv_at hl 1 rfl) ?_
        have hRa := hR.tell b_31q
        obtain ⟨a1_, a2_, a3_, a4_, a5_⟩ := hRa.2.2.2.2.2.2.1 v hv9 way hw2
        have len9 : 0 < (row z way (z.1 6 v)).length := Nat.pos_of_ne_zero nc_14
        refine m_ald (j := 2 * v + way) (v := nI (ix (2 * v + way) 0)) hx hb hK hP 16 19 rfl (by omega) (by decide) (by have := (a3_ len9).1; exact this) dX8_tellVariable_79 ?_
        refine lv_istore (lv' := [(5, .int (nI (ix (2 * v + way) 0))), (4, .int 0), (3, .int (nI (2 * v + way))), (0, .ref (mh G)), (1, .int (nI v)), (2, .int (nI way))]) hx hb dX8_tellVariable_80 hl (by decide) rfl (fun ls hl => ?_)
        refine lv_iconst (v := 0) hx hb dX8_tellVariable_82 (by decide) ?_
        refine lv_istore (lv' := [(6, .int 0), (5, .int (nI (ix (2 * v + way) 0))), (4, .int 0), (3, .int (nI (2 * v + way))), (0, .ref (mh G)), (1, .int (nI v)), (2, .int (nI way))]) hx hb dX8_tellVariable_83 hl (by decide) rfl (fun ls hl => ?_)
        refine w_loop (fun j H locs k sl g => ∃ (o1 : Nat → Int32) (F1 : Nat → Nat → Int32) (bm1 : Nat) (kv : Int32) (i : Nat) (ls : Array Slot), i + j = (row z way (z.1 6 v)).length ∧ (i < (row z way (z.1 6 v)).length → kv = nI (ix (2 * v + way) i)) ∧ o1 47 = nI bm1 ∧ bm < bm1 ∧ bm1 ≤ mo ∧ Kq LTl o F (o1, F1) ∧ k = 0 ∧ sl = 0 ∧ mP G o1 F1 H ∧ va_S (mA G s.heap.size) s.heap H locs ∧ lv_has ls 7 [(0, .ref (mh G)), (1, .int (nI v)), (2, .int (nI way)), (3, .int (nI (2 * v + way))), (4, .int 0), (5, .int kv), (6, .int (nI i))] ∧ g = F0 m 85 ls []) ?_ ?_ ((row z way (z.1 6 v)).length) _ _ _ _ _ ⟨o_28, fput F_29 49 (2 * v + way) (vp_nar .boolean 1), b_31, (nI (ix (2 * v + way) 0)), 0, ls, by omega, fun _ => rfl, b_31d, by omega, by omega, (b_31q.F (by decide)), rfl, rfl, hP, hS, lv_sub hl [4, 5, 6, 3, 2, 1, 0] rfl, rfl⟩
        · intro H locs k sl g hI
          obtain ⟨o1, F1, bm1, kv, i, ls, hp0, hp1, hp2, hp3, hp4, hp5, rfl, rfl, hP, hS, hl, rfl⟩ := hI
          have hR1 := hR.tell hp5
          obtain ⟨l1_, l2_, l3_, l4_, l5_⟩ := hR1.2.2.2.2.2.2.1 v hv9 way hw2
          refine lv_iload hx hb dX8_tellVariable_85 (lv_at hl 6 rfl) ?_
          refine lv_aload_n hx hb dX8_tellVariable_87 rfl (lv_at hl 0 rfl) ?_
          refine m_get (v := .ref (md G 21)) hx hb htu wu_in hown hK hP 21 (by decide) (htu _ U_116) rfl rfl dX8_tellVariable_88 ?_
          refine lv_iload_n hx hb dX8_tellVariable_91 rfl (lv_at hl 3 rfl) ?_
          refine m_ald (j := 2 * v + way) (v := nI ((row z way (z.1 6 v)).length)) hx hb hK hP 18 21 rfl (by omega) (by decide) l1_ dX8_tellVariable_92 ?_
          refine lv_icmp_ge (tgt := 123) hx hb dX8_tellVariable_93 (by decide) (fun c_33 => ?_) (fun c_33 => absurd (nI_le (by omega) (by omega)) c_33)
          refine lv_aload_n hx hb dX8_tellVariable_123 rfl (lv_at hl 0 rfl) ?_
          refine m_get (v := .ref (md G 49)) hx hb htu wu_in hown hK hP 49 (by decide) (htu _ U_189) rfl rfl dX8_tellVariable_124 ?_
          refine lv_iload_n hx hb dX8_tellVariable_127 rfl (lv_at hl 3 rfl) ?_
          refine lv_iconst (v := 0) hx hb dX8_tellVariable_128 (by decide) ?_
          refine m_zast (j := 2 * v + way) (x := 0) hx hb hK hP hDD hS 29 49 rfl (by omega) (by decide) (mW_a49 _ _ _ _ _) dX8_tellVariable_129 (fun H locs hP hS => ?_)
          refine lv_aload_n hx hb dX8_tellVariable_130 rfl (lv_at hl 0 rfl) ?_
          have kq9 : Kq LTl o F (o1, fput F1 49 (2 * v + way) (vp_nar .boolean 0)) := hp5.F (by decide)
          refine lv_bipush (v := 46) hx hb dX8_tellVariable_131 (by decide) ?_
          refine m_cv (m_runV (As := [.int 46]) (rest := []) ⟨hx, hb, hml, hown, htu⟩ (m_out l G hDD o1 (fput F1 49 (2 * v + way) (vp_nar .boolean 0)) bm1 mo 46 hp2 (((kq9 48 (by decide)).1.trans h48)) hmo ((by omega)) H.size) (cwV 1 htu gU_X8_out rfl rfl rfl (by decide +kernel) ⟨show 0 + 1 ≤ 2 * (d + 1) + 1 by omega, show 8 + (2 + 11) + 0 ≤ 50 * (d + 1) + 74 by omega⟩) hP hK rfl hl.1 rfl (lv_room (Nat.le_of_ble_eq_true rfl)) dX8_tellVariable_133) hS (fun o_35 F_36 H locs hw_37 hP hS => ?_)
          try dsimp only at hw_37
          obtain ⟨b_38, b_38a, b_38b, b_38c, b_38d, b_38e⟩ := TL.out hp2 (by omega) hw_37
          have b_38q : Kq LTl o F (o_35, F_36) := kq9.tr b_38e
          have b_38l : bm < b_38 := by omega
          exact m_vret hx hb hr hK hP hS ⟨b_38, by omega, by omega, b_38d, b_38q⟩ dX8_tellVariable_136 hlocks
        · intro j ih9 H locs k sl g hI
          obtain ⟨o1, F1, bm1, kv, i, ls, hp0, hp1, hp2, hp3, hp4, hp5, rfl, rfl, hP, hS, hl, rfl⟩ := hI
          have hR1 := hR.tell hp5
          obtain ⟨l1_, l2_, l3_, l4_, l5_⟩ := hR1.2.2.2.2.2.2.1 v hv9 way hw2
          have ni : i < (row z way (z.1 6 v)).length := by omega
          have hkv := hp1 ni
          subst hkv
          obtain ⟨y1_, y2_, y3_, y4_⟩ := l5_ i ni
          refine lv_iload hx hb dX8_tellVariable_85 (lv_at hl 6 rfl) ?_
          refine lv_aload_n hx hb dX8_tellVariable_87 rfl (lv_at hl 0 rfl) ?_
          refine m_get (v := .ref (md G 21)) hx hb htu wu_in hown hK hP 21 (by decide) (htu _ U_116) rfl rfl dX8_tellVariable_88 ?_
          refine lv_iload_n hx hb dX8_tellVariable_91 rfl (lv_at hl 3 rfl) ?_
          refine m_ald (j := 2 * v + way) (v := nI ((row z way (z.1 6 v)).length)) hx hb hK hP 18 21 rfl (by omega) (by decide) l1_ dX8_tellVariable_92 ?_
          refine lv_icmp_ge (tgt := 123) hx hb dX8_tellVariable_93 (by decide) (fun c_39 => absurd c_39 (nI_ge ni (by omega))) (fun c_39 => ?_)
          refine lv_aload_n hx hb dX8_tellVariable_96 rfl (lv_at hl 0 rfl) ?_
          refine lv_aload_n hx hb dX8_tellVariable_97 rfl (lv_at hl 0 rfl) ?_
          refine m_get (v := .ref (md G 17)) hx hb htu wu_in hown hK hP 17 (by decide) (htu _ U_118) rfl rfl dX8_tellVariable_98 ?_
          refine lv_iload hx hb dX8_tellVariable_101 (lv_at hl 5 rfl) ?_
          refine m_ald (j := ix (2 * v + way) i) (v := nI ((row z way (z.1 6 v)).getD i 0)) hx hb hK hP 14 17 rfl (by omega) (by decide) y2_ dX8_tellVariable_103 ?_
          refine lv_iload_n hx hb dX8_tellVariable_104 rfl (lv_at hl 2 rfl) ?_
          refine m_cv (m_runV (As := [.int (nI ((row z way (z.1 6 v)).getD i 0)), .int (nI way)]) (rest := []) ⟨hx, hb, hml, hown, htu⟩ (ih l G hDD o1 F1 z ix bm1 mo ((row z way (z.1 6 v)).getD i 0) way hR1 hp2 (((hp5 48 (by decide)).1.trans h48)) hmo hp4 ((by omega)) y3_ hw2 H.size) (cwV 2 htu gU_X8_tell rfl rfl rfl (by decide +kernel) ⟨show (2 * d + 2) + 1 ≤ 2 * (d + 1) + 1 by omega, show 8 + (4 + 11) + (50 * d + 100) ≤ 50 * (d + 1) + 74 by omega⟩) hP hK rfl hl.1 rfl (lv_room (Nat.le_of_ble_eq_true rfl)) dX8_tellVariable_105) hS (fun o_41 F_42 H locs hw_43 hP hS => ?_)
          try dsimp only at hw_43
          obtain ⟨b_44, b_44a, b_44b, b_44d, b_44e⟩ := hw_43
          have b_44q : Kq LTl o F (o_41, F_42) := hp5.tr b_44e
          have b_44R := hR.tell b_44q
          obtain ⟨z1_, z2_, z3_, z4_, z5_⟩ := b_44R.2.2.2.2.2.2.1 v hv9 way hw2
          have z18 := (z5_ i ni).2.2.2
          refine lv_aload_n hx hb dX8_tellVariable_108 rfl (lv_at hl 0 rfl) ?_
          refine m_get (v := .ref (md G 18)) hx hb htu wu_in hown hK hP 18 (by decide) (htu _ U_119) rfl rfl dX8_tellVariable_109 ?_
          refine lv_iload hx hb dX8_tellVariable_112 (lv_at hl 5 rfl) ?_
          refine m_ald (j := ix (2 * v + way) i) (v := F_42 18 (ix (2 * v + way) i)) hx hb hK hP 15 18 rfl (by omega) (by decide) rfl dX8_tellVariable_114 ?_
          refine lv_istore (lv' := [(5, .int (F_42 18 (ix (2 * v + way) i))), (0, .ref (mh G)), (1, .int (nI v)), (2, .int (nI way)), (3, .int (nI (2 * v + way))), (4, .int 0), (6, .int (nI i))]) hx hb dX8_tellVariable_115 hl (by decide) rfl (fun ls hl => ?_)
          refine lv_iinc (v := nI (i + 1)) (lv' := [(6, .int (nI (i + 1))), (5, .int (F_42 18 (ix (2 * v + way) i))), (0, .ref (mh G)), (1, .int (nI v)), (2, .int (nI way)), (3, .int (nI (2 * v + way))), (4, .int 0)]) hx hb dX8_tellVariable_117 hl (k := 6) rfl (nI_1 i) (by decide) rfl (fun ls hl => ?_)
          refine lv_goto (tgt := 85) hx hb dX8_tellVariable_120 (by decide) ?_
          exact ih9 _ _ _ _ _ ⟨o_41, F_42, b_44, (F_42 18 (ix (2 * v + way) i)), i + 1, ls, by omega, (fun h => z18.trans (if_pos h)), b_44d, by omega, b_44b, b_44q, rfl, rfl, hP, hS, lv_sub hl [2, 3, 4, 5, 6, 1, 0] rfl, rfl⟩
      · skip
        have nc_16 : way = 0 := (nI_eq (a := way) (b := 0) (by omega) (by omega)).mp c_16
        refine lv_bipush (v := 124) hx hb dX8_tellVariable_41 (by decide) ?_
        refine lv_goto (tgt := 48) hx hb dX8_tellVariable_43 (by decide) ?_
        refine m_cv (m_runV (As := [.int 124]) (rest := []) ⟨hx, hb, hml, hown, htu⟩ (m_out l G hDD o F bm mo 124 h47 ((((Kq.rf (L := LTl) (o := o) (F := F)) 48 (by decide)).1.trans h48)) hmo ((by omega)) H.size) (cwV 1 htu gU_X8_out rfl rfl rfl (by decide +kernel) ⟨show 0 + 1 ≤ 2 * (d + 1) + 1 by omega, show 8 + (2 + 11) + 0 ≤ 50 * (d + 1) + 74 by omega⟩) hP hK rfl hl.1 rfl (lv_room (Nat.le_of_ble_eq_true rfl)) dX8_tellVariable_48) hS (fun o_46 F_47 H locs hw_48 hP hS => ?_)
        try dsimp only at hw_48
        obtain ⟨b_49, b_49a, b_49b, b_49c, b_49d, b_49e⟩ := TL.out h47 (by omega) hw_48
        have b_49q : Kq LTl o F (o_46, F_47) := (Kq.rf (L := LTl) (o := o) (F := F)).tr b_49e
        have b_49l : bm < b_49 := by omega
        refine lv_aload_n hx hb dX8_tellVariable_51 rfl (lv_at hl 2 rfl) ?_
        refine lv_bipush (v := 39) hx hb dX8_tellVariable_52 (by decide) ?_
        refine m_cv (m_runV (As := [.int 39]) (rest := []) ⟨hx, hb, hml, hown, htu⟩ (m_out l G hDD o_46 F_47 b_49 mo 39 b_49d (((b_49q 48 (by decide)).1.trans h48)) hmo ((by omega)) H.size) (cwV 1 htu gU_X8_out rfl rfl rfl (by decide +kernel) ⟨show 0 + 1 ≤ 2 * (d + 1) + 1 by omega, show 8 + (2 + 11) + 0 ≤ 50 * (d + 1) + 74 by omega⟩) hP hK rfl hl.1 rfl (lv_room (Nat.le_of_ble_eq_true rfl)) dX8_tellVariable_54) hS (fun o_51 F_52 H locs hw_53 hP hS => ?_)
        try dsimp only at hw_53
        obtain ⟨b_54, b_54a, b_54b, b_54c, b_54d, b_54e⟩ := TL.out b_49d (by omega) hw_53
        have b_54q : Kq LTl o F (o_51, F_52) := b_49q.tr b_54e
        have b_54l : bm < b_54 := by omega
        refine lv_aload_n hx hb dX8_tellVariable_57 rfl (lv_at hl 2 rfl) ?_
        refine lv_iload_n hx hb dX8_tellVariable_58 rfl (lv_at hl 3 rfl) ?_
        refine m_cv (m_runV (As := [.int (nI v)]) (rest := []) ⟨hx, hb, hml, hown, htu⟩ (m_outNumber l G hDD o_51 F_52 b_54 mo (nI v) b_54d (((b_54q 48 (by decide)).1.trans h48)) hmo ((by omega)) H.size) (cwV 1 htu gU_X8_outNumber rfl rfl rfl (by decide +kernel) ⟨show 1 + 1 ≤ 2 * (d + 1) + 1 by omega, show 8 + (6 + 11) + 21 ≤ 50 * (d + 1) + 74 by omega⟩) hP hK rfl hl.1 rfl (lv_room (Nat.le_of_ble_eq_true rfl)) dX8_tellVariable_59) hS (fun o_56 F_57 H locs hw_58 hP hS => ?_)
        try dsimp only at hw_58
        obtain ⟨b_59, b_59a, b_59b, b_59d, b_59e⟩ := hw_58
        have b_59q : Kq LTl o F (o_56, F_57) := b_54q.tr b_59e
        have b_59R := hR.tell b_59q
        refine lv_iload hx hb dX8_tellVariable_62 (lv_at hl 0 rfl) ?_
        refine lv_if_ne (tgt := 136) hx hb dX8_tellVariable_64 (by decide) (fun c_60 => absurd (by decide) c_60) (fun c_60 => ?_)
        refine lv_aload_n hx hb dX8_tellVariable_67 rfl (lv_at hl 2 rfl) ?_
        refine m_get (v := .ref (md G 49)) hx hb htu wu_in hown hK hP 49 (by decide) (htu _ U_189) rfl rfl dX8_tellVariable_68 ?_
        refine lv_iload_n hx hb dX8_tellVariable_71 rfl (lv_at hl 1 rfl) ?_
        refine lv_iconst (v := 1) hx hb dX8_tellVariable_72 (by decide) ?_
        refine m_zast (j := 2 * v + way) (x := 1) hx hb hK hP hDD hS 29 49 rfl (by omega) (by decide) (mW_a49 _ _ _ _ _) dX8_tellVariable_73 (fun H locs hP hS => ?_)
        refine lv_aload_n hx hb dX8_tellVariable_74 rfl (lv_at hl 2 rfl) ?_
        refine m_get (v := .ref (md G 19)) hx hb htu wu_in hown hK hP 19 (by decide) (htu _ U_117) rfl rfl dX8_tellVariable_75 ?_
        refine lv_iload_n hx hb dX8_tellVariable_78 rfl (lv_at hl 1 rfl) ?_
        have hRa := hR.tell b_59q
        obtain ⟨a1_, a2_, a3_, a4_, a5_⟩ := hRa.2.2.2.2.2.2.1 v hv9 way hw2
        have len9 : 0 < (row z way (z.1 6 v)).length := Nat.pos_of_ne_zero nc_14
        refine m_ald (j := 2 * v + way) (v := nI (ix (2 * v + way) 0)) hx hb hK hP 16 19 rfl (by omega) (by decide) (by have := (a3_ len9).1; exact this) dX8_tellVariable_79 ?_
        refine lv_istore (lv' := [(5, .int (nI (ix (2 * v + way) 0))), (4, .int 0), (3, .int (nI (2 * v + way))), (0, .ref (mh G)), (1, .int (nI v)), (2, .int (nI way))]) hx hb dX8_tellVariable_80 hl (by decide) rfl (fun ls hl => ?_)
        refine lv_iconst (v := 0) hx hb dX8_tellVariable_82 (by decide) ?_
        refine lv_istore (lv' := [(6, .int 0), (5, .int (nI (ix (2 * v + way) 0))), (4, .int 0), (3, .int (nI (2 * v + way))), (0, .ref (mh G)), (1, .int (nI v)), (2, .int (nI way))]) hx hb dX8_tellVariable_83 hl (by decide) rfl (fun ls hl => ?_)
        refine w_loop (fun j H locs k sl g => ∃ (o1 : Nat → Int32) (F1 : Nat → Nat → Int32) (bm1 : Nat) (kv : Int32) (i : Nat) (ls : Array Slot), i + j = (row z way (z.1 6 v)).length ∧ (i < (row z way (z.1 6 v)).length → kv = nI (ix (2 * v + way) i)) ∧ o1 47 = nI bm1 ∧ bm < bm1 ∧ bm1 ≤ mo ∧ Kq LTl o F (o1, F1) ∧ k = 0 ∧ sl = 0 ∧ mP G o1 F1 H ∧ va_S (mA G s.heap.size) s.heap H locs ∧ lv_has ls 7 [(0, .ref (mh G)), (1, .int (nI v)), (2, .int (nI way)), (3, .int (nI (2 * v + way))), (4, .int 0), (5, .int kv), (6, .int (nI i))] ∧ g = F0 m 85 ls []) ?_ ?_ ((row z way (z.1 6 v)).length) _ _ _ _ _ ⟨o_56, fput F_57 49 (2 * v + way) (vp_nar .boolean 1), b_59, (nI (ix (2 * v + way) 0)), 0, ls, by omega, fun _ => rfl, b_59d, by omega, by omega, (b_59q.F (by decide)), rfl, rfl, hP, hS, lv_sub hl [4, 5, 6, 3, 2, 1, 0] rfl, rfl⟩
        · intro H locs k sl g hI
          obtain ⟨o1, F1, bm1, kv, i, ls, hp0, hp1, hp2, hp3, hp4, hp5, rfl, rfl, hP, hS, hl, rfl⟩ := hI
          have hR1 := hR.tell hp5
          obtain ⟨l1_, l2_, l3_, l4_, l5_⟩ := hR1.2.2.2.2.2.2.1 v hv9 way hw2
          refine lv_iload hx hb dX8_tellVariable_85 (lv_at hl 6 rfl) ?_
          refine lv_aload_n hx hb dX8_tellVariable_87 rfl (lv_at hl 0 rfl) ?_
          refine m_get (v := .ref (md G 21)) hx hb htu wu_in hown hK hP 21 (by decide) (htu _ U_116) rfl rfl dX8_tellVariable_88 ?_
          refine lv_iload_n hx hb dX8_tellVariable_91 rfl (lv_at hl 3 rfl) ?_
          refine m_ald (j := 2 * v + way) (v := nI ((row z way (z.1 6 v)).length)) hx hb hK hP 18 21 rfl (by omega) (by decide) l1_ dX8_tellVariable_92 ?_
          refine lv_icmp_ge (tgt := 123) hx hb dX8_tellVariable_93 (by decide) (fun c_61 => ?_) (fun c_61 => absurd (nI_le (by omega) (by omega)) c_61)
          refine lv_aload_n hx hb dX8_tellVariable_123 rfl (lv_at hl 0 rfl) ?_
          refine m_get (v := .ref (md G 49)) hx hb htu wu_in hown hK hP 49 (by decide) (htu _ U_189) rfl rfl dX8_tellVariable_124 ?_
          refine lv_iload_n hx hb dX8_tellVariable_127 rfl (lv_at hl 3 rfl) ?_
          refine lv_iconst (v := 0) hx hb dX8_tellVariable_128 (by decide) ?_
          refine m_zast (j := 2 * v + way) (x := 0) hx hb hK hP hDD hS 29 49 rfl (by omega) (by decide) (mW_a49 _ _ _ _ _) dX8_tellVariable_129 (fun H locs hP hS => ?_)
          refine lv_aload_n hx hb dX8_tellVariable_130 rfl (lv_at hl 0 rfl) ?_
          have kq9 : Kq LTl o F (o1, fput F1 49 (2 * v + way) (vp_nar .boolean 0)) := hp5.F (by decide)
          refine lv_bipush (v := 46) hx hb dX8_tellVariable_131 (by decide) ?_
          refine m_cv (m_runV (As := [.int 46]) (rest := []) ⟨hx, hb, hml, hown, htu⟩ (m_out l G hDD o1 (fput F1 49 (2 * v + way) (vp_nar .boolean 0)) bm1 mo 46 hp2 (((kq9 48 (by decide)).1.trans h48)) hmo ((by omega)) H.size) (cwV 1 htu gU_X8_out rfl rfl rfl (by decide +kernel) ⟨show 0 + 1 ≤ 2 * (d + 1) + 1 by omega, show 8 + (2 + 11) + 0 ≤ 50 * (d + 1) + 74 by omega⟩) hP hK rfl hl.1 rfl (lv_room (Nat.le_of_ble_eq_true rfl)) dX8_tellVariable_133) hS (fun o_63 F_64 H locs hw_65 hP hS => ?_)
          try dsimp only at hw_65
          obtain ⟨b_66, b_66a, b_66b, b_66c, b_66d, b_66e⟩ := TL.out hp2 (by omega) hw_65
          have b_66q : Kq LTl o F (o_63, F_64) := kq9.tr b_66e
          have b_66l : bm < b_66 := by omega
          exact m_vret hx hb hr hK hP hS ⟨b_66, by omega, by omega, b_66d, b_66q⟩ dX8_tellVariable_136 hlocks
        · intro j ih9 H locs k sl g hI
          obtain ⟨o1, F1, bm1, kv, i, ls, hp0, hp1, hp2, hp3, hp4, hp5, rfl, rfl, hP, hS, hl, rfl⟩ := hI
          have hR1 := hR.tell hp5
          obtain ⟨l1_, l2_, l3_, l4_, l5_⟩ := hR1.2.2.2.2.2.2.1 v hv9 way hw2
          have ni : i < (row z way (z.1 6 v)).length := by omega
          have hkv := hp1 ni
          subst hkv
          obtain ⟨y1_, y2_, y3_, y4_⟩ := l5_ i ni
          refine lv_iload hx hb dX8_tellVariable_85 (lv_at hl 6 rfl) ?_
          refine lv_aload_n hx hb dX8_tellVariable_87 rfl (lv_at hl 0 rfl) ?_
          refine m_get (v := .ref (md G 21)) hx hb htu wu_in hown hK hP 21 (by decide) (htu _ U_116) rfl rfl dX8_tellVariable_88 ?_
          refine lv_iload_n hx hb dX8_tellVariable_91 rfl (lv_at hl 3 rfl) ?_
          refine m_ald (j := 2 * v + way) (v := nI ((row z way (z.1 6 v)).length)) hx hb hK hP 18 21 rfl (by omega) (by decide) l1_ dX8_tellVariable_92 ?_
          refine lv_icmp_ge (tgt := 123) hx hb dX8_tellVariable_93 (by decide) (fun c_67 => absurd c_67 (nI_ge ni (by omega))) (fun c_67 => ?_)
          refine lv_aload_n hx hb dX8_tellVariable_96 rfl (lv_at hl 0 rfl) ?_
          refine lv_aload_n hx hb dX8_tellVariable_97 rfl (lv_at hl 0 rfl) ?_
          refine m_get (v := .ref (md G 17)) hx hb htu wu_in hown hK hP 17 (by decide) (htu _ U_118) rfl rfl dX8_tellVariable_98 ?_
          refine lv_iload hx hb dX8_tellVariable_101 (lv_at hl 5 rfl) ?_
          refine m_ald (j := ix (2 * v + way) i) (v := nI ((row z way (z.1 6 v)).getD i 0)) hx hb hK hP 14 17 rfl (by omega) (by decide) y2_ dX8_tellVariable_103 ?_
          refine lv_iload_n hx hb dX8_tellVariable_104 rfl (lv_at hl 2 rfl) ?_
          refine m_cv (m_runV (As := [.int (nI ((row z way (z.1 6 v)).getD i 0)), .int (nI way)]) (rest := []) ⟨hx, hb, hml, hown, htu⟩ (ih l G hDD o1 F1 z ix bm1 mo ((row z way (z.1 6 v)).getD i 0) way hR1 hp2 (((hp5 48 (by decide)).1.trans h48)) hmo hp4 ((by omega)) y3_ hw2 H.size) (cwV 2 htu gU_X8_tell rfl rfl rfl (by decide +kernel) ⟨show (2 * d + 2) + 1 ≤ 2 * (d + 1) + 1 by omega, show 8 + (4 + 11) + (50 * d + 100) ≤ 50 * (d + 1) + 74 by omega⟩) hP hK rfl hl.1 rfl (lv_room (Nat.le_of_ble_eq_true rfl)) dX8_tellVariable_105) hS (fun o_69 F_70 H locs hw_71 hP hS => ?_)
          try dsimp only at hw_71
          obtain ⟨b_72, b_72a, b_72b, b_72d, b_72e⟩ := hw_71
          have b_72q : Kq LTl o F (o_69, F_70) := hp5.tr b_72e
          have b_72R := hR.tell b_72q
          obtain ⟨z1_, z2_, z3_, z4_, z5_⟩ := b_72R.2.2.2.2.2.2.1 v hv9 way hw2
          have z18 := (z5_ i ni).2.2.2
          refine lv_aload_n hx hb dX8_tellVariable_108 rfl (lv_at hl 0 rfl) ?_
          refine m_get (v := .ref (md G 18)) hx hb htu wu_in hown hK hP 18 (by decide) (htu _ U_119) rfl rfl dX8_tellVariable_109 ?_
          refine lv_iload hx hb dX8_tellVariable_112 (lv_at hl 5 rfl) ?_
          refine m_ald (j := ix (2 * v + way) i) (v := F_70 18 (ix (2 * v + way) i)) hx hb hK hP 15 18 rfl (by omega) (by decide) rfl dX8_tellVariable_114 ?_
          refine lv_istore (lv' := [(5, .int (F_70 18 (ix (2 * v + way) i))), (0, .ref (mh G)), (1, .int (nI v)), (2, .int (nI way)), (3, .int (nI (2 * v + way))), (4, .int 0), (6, .int (nI i))]) hx hb dX8_tellVariable_115 hl (by decide) rfl (fun ls hl => ?_)
          refine lv_iinc (v := nI (i + 1)) (lv' := [(6, .int (nI (i + 1))), (5, .int (F_70 18 (ix (2 * v + way) i))), (0, .ref (mh G)), (1, .int (nI v)), (2, .int (nI way)), (3, .int (nI (2 * v + way))), (4, .int 0)]) hx hb dX8_tellVariable_117 hl (k := 6) rfl (nI_1 i) (by decide) rfl (fun ls hl => ?_)
          refine lv_goto (tgt := 85) hx hb dX8_tellVariable_120 (by decide) ?_
          exact ih9 _ _ _ _ _ ⟨o_69, F_70, b_72, (F_70 18 (ix (2 * v + way) i)), i + 1, ls, by omega, (fun h => z18.trans (if_pos h)), b_72d, by omega, b_72b, b_72q, rfl, rfl, hP, hS, lv_sub hl [2, 3, 4, 5, 6, 1, 0] rfl, rfl⟩
    · skip
      have nc_14 : (row z way (z.1 6 v)).length = 0 := (nI_eq (a := (row z way (z.1 6 v)).length) (b := 0) (by omega) (by omega)).mp c_14
      refine lv_iconst (v := 1) hx hb dX8_tellVariable_24 (by decide) ?_
      refine lv_goto (tgt := 29) hx hb dX8_tellVariable_25 (by decide) ?_
      refine lv_istore (lv' := [(4, .int 1), (3, .int (nI (2 * v + way))), (0, .ref (mh G)), (1, .int (nI v)), (2, .int (nI way))]) hx hb dX8_tellVariable_29 hl (by decide) rfl (fun ls hl => ?_)
      refine lv_iload hx hb dX8_tellVariable_31 (lv_at hl 0 rfl) ?_
      refine lv_if_ne (tgt := 51) hx hb dX8_tellVariable_33 (by decide) (fun c_73 => ?_) (fun c_73 => absurd c_73 (by decide))
      refine lv_aload_n hx hb dX8_tellVariable_51 rfl (lv_at hl 2 rfl) ?_
      refine lv_bipush (v := 39) hx hb dX8_tellVariable_52 (by decide) ?_
      refine m_cv (m_runV (As := [.int 39]) (rest := []) ⟨hx, hb, hml, hown, htu⟩ (m_out l G hDD o F bm mo 39 h47 ((((Kq.rf (L := LTl) (o := o) (F := F)) 48 (by decide)).1.trans h48)) hmo ((by omega)) H.size) (cwV 1 htu gU_X8_out rfl rfl rfl (by decide +kernel) ⟨show 0 + 1 ≤ 2 * (d + 1) + 1 by omega, show 8 + (2 + 11) + 0 ≤ 50 * (d + 1) + 74 by omega⟩) hP hK rfl hl.1 rfl (lv_room (Nat.le_of_ble_eq_true rfl)) dX8_tellVariable_54) hS (fun o_75 F_76 H locs hw_77 hP hS => ?_)
      try dsimp only at hw_77
      obtain ⟨b_78, b_78a, b_78b, b_78c, b_78d, b_78e⟩ := TL.out h47 (by omega) hw_77
      have b_78q : Kq LTl o F (o_75, F_76) := (Kq.rf (L := LTl) (o := o) (F := F)).tr b_78e
      have b_78l : bm < b_78 := by omega
      refine lv_aload_n hx hb dX8_tellVariable_57 rfl (lv_at hl 2 rfl) ?_
      refine lv_iload_n hx hb dX8_tellVariable_58 rfl (lv_at hl 3 rfl) ?_
      refine m_cv (m_runV (As := [.int (nI v)]) (rest := []) ⟨hx, hb, hml, hown, htu⟩ (m_outNumber l G hDD o_75 F_76 b_78 mo (nI v) b_78d (((b_78q 48 (by decide)).1.trans h48)) hmo ((by omega)) H.size) (cwV 1 htu gU_X8_outNumber rfl rfl rfl (by decide +kernel) ⟨show 1 + 1 ≤ 2 * (d + 1) + 1 by omega, show 8 + (6 + 11) + 21 ≤ 50 * (d + 1) + 74 by omega⟩) hP hK rfl hl.1 rfl (lv_room (Nat.le_of_ble_eq_true rfl)) dX8_tellVariable_59) hS (fun o_80 F_81 H locs hw_82 hP hS => ?_)
      try dsimp only at hw_82
      obtain ⟨b_83, b_83a, b_83b, b_83d, b_83e⟩ := hw_82
      have b_83q : Kq LTl o F (o_80, F_81) := b_78q.tr b_83e
      have b_83R := hR.tell b_83q
      refine lv_iload hx hb dX8_tellVariable_62 (lv_at hl 0 rfl) ?_
      refine lv_if_ne (tgt := 136) hx hb dX8_tellVariable_64 (by decide) (fun c_84 => ?_) (fun c_84 => absurd c_84 (by decide))
      exact m_vret hx hb hr hK hP hS ⟨b_83, by omega, by omega, b_83d, b_83q⟩ dX8_tellVariable_136 hlocks

set_option maxHeartbeats 4000000 in
set_option maxRecDepth 100000 in
/-- tell, one more -/
theorem m_tell_s (l : Launch) (G : mG) (hDD : mDD G) (o : Nat → Int32) (F : Nat → Nat → Int32) (d : Nat) (z : aS) (ix : Nat → Nat → Nat) (bm : Nat) (mo : Nat) (t : Nat) (way : Nat) (ih : mTellAt d) (ihv : mTellVAt d) (hR : MR z ix o F) (h47 : o 47 = nI bm) (h48 : o 48 = nI mo) (hmo : mo ≤ 400) (hbm : bm ≤ mo) (hd : mo ≤ bm + (d + 1)) (ht : t < nT z) (hw2 : way < 2) (sz : Nat) : Met l yX8_tell (wU yX8_tell cX8_tell 4 none) { frames := 2 * (d + 1) + 2, cells := 0, slots := 0, locals := 50 * (d + 1) + 100 } (mPc G o F sz [.ref (mh G), .int (nI t), .int (nI way)]) (mQv G sz (fun u => TL mo bm o F u)) 0 0 (mA G sz) := by
  refine Met.ofW (cc := cX8_tell) (maxL := 4) (ret := none) (by decide) rfl ?_
  intro p e s m args below meth c s₁ B hml hv
  obtain ⟨rfl, hsz, hP, hK⟩ := hv
  have hx := B.exec
  have hb := B.bytes
  have hr := B.returns
  have htu : ∀ w ∈ WU, w.before _ s = true := fun w h => atoms_spec (ws := (wU yX8_tell cX8_tell 4 none)) B.pre w (List.mem_cons_of_mem _ h)
  have hown : s.vm.findClass RX8 = some m.cls := findClass_of_methodNamed B.named
  have hlocks := B.notSynchronized
  subst hsz
  have hS : va_S (mA G s.heap.size) s.heap s.heap [] := va_S.rf
  have hl := lv_entry ([.ref (mh G), .int (nI t), .int (nI way)]) (n := 4) (Nat.le_of_ble_eq_true rfl)
  rw [lg_entry_eq]
  generalize (lg_sl ([.ref (mh G), .int (nI t), .int (nI way)]) ++ List.replicate (4 - (lg_sl ([.ref (mh G), .int (nI t), .int (nI way)])).length) Slot.unset).toArray = ls at hl ⊢
  have hl : lv_has ls 4 [(0, .ref (mh G)), (1, .int (nI t)), (2, .int (nI way))] := hl
  obtain ⟨H, hHe⟩ : ∃ H : Heap, H = s.heap := ⟨_, rfl⟩
  rw [← hHe] at hP
  have hS : va_S (mA G s.heap.size) s.heap H [] := by rw [hHe]; exact va_S.rf
  refine W.heq hHe ?_
  obtain ⟨b1, b2, b3, b4, b5, b6, b7, b8⟩ := hR.2.1
  have ta := hR.2.2.1 t ht
  have tas := ta.2.2.1.1
  refine lv_aload_n hx hb dX8_tell_0 rfl (lv_at hl 0 rfl) ?_
  refine m_get (v := .int (nI bm)) hx hb htu wu_in hown hK hP 47 (by decide) (htu _ U_187) rfl (m_v h47) dX8_tell_1 ?_
  refine lv_aload_n hx hb dX8_tell_4 rfl (lv_at hl 0 rfl) ?_
  refine m_get (v := .int (nI mo)) hx hb htu wu_in hown hK hP 48 (by decide) (htu _ U_188) rfl (m_v h48) dX8_tell_5 ?_
  refine lv_icmp_ne (tgt := 12) hx hb dX8_tell_8 (by decide) (fun c_1 => ?_) (fun c_1 => ?_)
  · skip
    have nc_1 : ¬ bm = mo := fun h9 => c_1 ((nI_eq (a := bm) (b := mo) (by omega) (by omega)).mpr h9)
    refine lv_aload_n hx hb dX8_tell_12 rfl (lv_at hl 0 rfl) ?_
    refine m_get (v := .ref (md G 8)) hx hb htu wu_in hown hK hP 8 (by decide) (htu _ U_53) rfl rfl dX8_tell_13 ?_
    refine lv_iload_n hx hb dX8_tell_16 rfl (lv_at hl 1 rfl) ?_
    refine m_ald (j := t) (v := nI (srt z t)) hx hb hK hP 7 8 rfl (by omega) (by decide) ta.1 dX8_tell_17 ?_
    rcases Decidable.em (nI (srt z t) = 0) with c_2 | c_2
    · skip
      refine lv_tableIn (tgt := 44) hx hb dX8_tell_18 (by rw [c_2]; decide) (by rw [c_2]; decide) (by rw [c_2]; rfl) (by decide) ?_
      have hs9 : srt z t = 0 := (nI_eq (b := 0) (by omega) (by omega)).mp c_2
      refine lv_aload_n hx hb dX8_tell_44 rfl (lv_at hl 0 rfl) ?_
      refine lv_iload_n hx hb dX8_tell_45 rfl (lv_at hl 1 rfl) ?_
      refine lv_if_ne (tgt := 54) hx hb dX8_tell_46 (by decide) (fun c_3 => ?_) (fun c_3 => ?_)
      · skip
        have nc_3 : ¬ t = 0 := fun h9 => c_3 ((nI_eq (a := t) (b := 0) (by omega) (by omega)).mpr h9)
        refine lv_bipush (v := 116) hx hb dX8_tell_54 (by decide) ?_
        refine m_cv (m_runV (As := [.int 116]) (rest := []) ⟨hx, hb, hml, hown, htu⟩ (m_out l G hDD o F bm mo 116 h47 ((((Kq.rf (L := LTl) (o := o) (F := F)) 48 (by decide)).1.trans h48)) hmo ((by omega)) H.size) (cwV 1 htu gU_X8_out rfl rfl rfl (by decide +kernel) ⟨show 0 + 1 ≤ 2 * (d + 1) + 2 by omega, show 8 + (2 + 11) + 0 ≤ 50 * (d + 1) + 100 by omega⟩) hP hK rfl hl.1 rfl (lv_room (Nat.le_of_ble_eq_true rfl)) dX8_tell_56) hS (fun o_5 F_6 H locs hw_7 hP hS => ?_)
        try dsimp only at hw_7
        obtain ⟨b_8, b_8a, b_8b, b_8c, b_8d, b_8e⟩ := TL.out h47 (by omega) hw_7
        have b_8q : Kq LTl o F (o_5, F_6) := (Kq.rf (L := LTl) (o := o) (F := F)).tr b_8e
        have b_8l : bm < b_8 := by omega
        refine lv_goto (tgt := 173) hx hb dX8_tell_59 (by decide) ?_
        exact m_vret hx hb hr hK hP hS ⟨b_8, by omega, by omega, b_8d, b_8q⟩ dX8_tell_173 hlocks
      · skip
        have nc_3 : t = 0 := (nI_eq (a := t) (b := 0) (by omega) (by omega)).mp c_3
        refine lv_bipush (v := 119) hx hb dX8_tell_49 (by decide) ?_
        refine lv_goto (tgt := 56) hx hb dX8_tell_51 (by decide) ?_
        refine m_cv (m_runV (As := [.int 119]) (rest := []) ⟨hx, hb, hml, hown, htu⟩ (m_out l G hDD o F bm mo 119 h47 ((((Kq.rf (L := LTl) (o := o) (F := F)) 48 (by decide)).1.trans h48)) hmo ((by omega)) H.size) (cwV 1 htu gU_X8_out rfl rfl rfl (by decide +kernel) ⟨show 0 + 1 ≤ 2 * (d + 1) + 2 by omega, show 8 + (2 + 11) + 0 ≤ 50 * (d + 1) + 100 by omega⟩) hP hK rfl hl.1 rfl (lv_room (Nat.le_of_ble_eq_true rfl)) dX8_tell_56) hS (fun o_10 F_11 H locs hw_12 hP hS => ?_)
        try dsimp only at hw_12
        obtain ⟨b_13, b_13a, b_13b, b_13c, b_13d, b_13e⟩ := TL.out h47 (by omega) hw_12
        have b_13q : Kq LTl o F (o_10, F_11) := (Kq.rf (L := LTl) (o := o) (F := F)).tr b_13e
        have b_13l : bm < b_13 := by omega
        refine lv_goto (tgt := 173) hx hb dX8_tell_59 (by decide) ?_
        exact m_vret hx hb hr hK hP hS ⟨b_13, by omega, by omega, b_13d, b_13q⟩ dX8_tell_173 hlocks
    rcases Decidable.em (nI (srt z t) = 1) with c_14 | c_14
    · skip
      refine lv_tableIn (tgt := 62) hx hb dX8_tell_18 (by rw [c_14]; decide) (by rw [c_14]; decide) (by rw [c_14]; rfl) (by decide) ?_
      have hs9 : srt z t = 1 := (nI_eq (b := 1) (by omega) (by omega)).mp c_14
      obtain ⟨f1_, f2_, f3_, f4_⟩ := hR.2.2.2.1 t ht hs9
      refine lv_aload_n hx hb dX8_tell_62 rfl (lv_at hl 0 rfl) ?_
      refine lv_bipush (v := 62) hx hb dX8_tell_63 (by decide) ?_
      refine m_cv (m_runV (As := [.int 62]) (rest := []) ⟨hx, hb, hml, hown, htu⟩ (m_out l G hDD o F bm mo 62 h47 ((((Kq.rf (L := LTl) (o := o) (F := F)) 48 (by decide)).1.trans h48)) hmo ((by omega)) H.size) (cwV 1 htu gU_X8_out rfl rfl rfl (by decide +kernel) ⟨show 0 + 1 ≤ 2 * (d + 1) + 2 by omega, show 8 + (2 + 11) + 0 ≤ 50 * (d + 1) + 100 by omega⟩) hP hK rfl hl.1 rfl (lv_room (Nat.le_of_ble_eq_true rfl)) dX8_tell_65) hS (fun o_16 F_17 H locs hw_18 hP hS => ?_)
      try dsimp only at hw_18
      obtain ⟨b_19, b_19a, b_19b, b_19c, b_19d, b_19e⟩ := TL.out h47 (by omega) hw_18
      have b_19q : Kq LTl o F (o_16, F_17) := (Kq.rf (L := LTl) (o := o) (F := F)).tr b_19e
      have b_19l : bm < b_19 := by omega
      refine lv_aload_n hx hb dX8_tell_68 rfl (lv_at hl 0 rfl) ?_
      refine lv_aload_n hx hb dX8_tell_69 rfl (lv_at hl 0 rfl) ?_
      refine m_get (v := .ref (md G 10)) hx hb htu wu_in hown hK hP 10 (by decide) (htu _ U_80) rfl rfl dX8_tell_70 ?_
      refine lv_iload_n hx hb dX8_tell_73 rfl (lv_at hl 1 rfl) ?_
      refine m_ald (j := t) (v := nI (one z t)) hx hb hK hP 9 10 rfl (by omega) (by decide) ((congrFun ((b_19q 10 (by decide)).2) _).trans f1_) dX8_tell_74 ?_
      refine lv_iconst (v := 1) hx hb dX8_tell_75 (by decide) ?_
      refine lv_iload_n hx hb dX8_tell_76 rfl (lv_at hl 2 rfl) ?_
      refine lv_isub hx hb dX8_tell_77 ?_
      refine m_top (y := nI (1 - way)) (pk_sub (a := 1) (b := way) (by omega)) ?_
      refine m_cv (m_runV (As := [.int (nI (one z t)), .int (nI (1 - way))]) (rest := []) ⟨hx, hb, hml, hown, htu⟩ (ih l G hDD o_16 F_17 z ix b_19 mo (one z t) (1 - way) ((hR.tell b_19q)) b_19d (((b_19q 48 (by decide)).1.trans h48)) hmo ((by omega)) ((by omega)) f3_ ((by omega)) H.size) (cwV 2 htu gU_X8_tell rfl rfl rfl (by decide +kernel) ⟨show (2 * d + 2) + 1 ≤ 2 * (d + 1) + 2 by omega, show 8 + (4 + 11) + (50 * d + 100) ≤ 50 * (d + 1) + 100 by omega⟩) hP hK rfl hl.1 rfl (lv_room (Nat.le_of_ble_eq_true rfl)) dX8_tell_78) hS (fun o_21 F_22 H locs hw_23 hP hS => ?_)
      try dsimp only at hw_23
      obtain ⟨b_24, b_24a, b_24b, b_24d, b_24e⟩ := hw_23
      have b_24q : Kq LTl o F (o_21, F_22) := b_19q.tr b_24e
      have b_24R := hR.tell b_24q
      refine lv_aload_n hx hb dX8_tell_81 rfl (lv_at hl 0 rfl) ?_
      refine lv_aload_n hx hb dX8_tell_82 rfl (lv_at hl 0 rfl) ?_
      refine m_get (v := .ref (md G 11)) hx hb htu wu_in hown hK hP 11 (by decide) (htu _ U_114) rfl rfl dX8_tell_83 ?_
      refine lv_iload_n hx hb dX8_tell_86 rfl (lv_at hl 1 rfl) ?_
      refine m_ald (j := t) (v := nI (two z t)) hx hb hK hP 10 11 rfl (by omega) (by decide) ((congrFun ((b_24q 11 (by decide)).2) _).trans f2_) dX8_tell_87 ?_
      refine lv_iload_n hx hb dX8_tell_88 rfl (lv_at hl 2 rfl) ?_
      refine m_cv (m_runV (As := [.int (nI (two z t)), .int (nI way)]) (rest := []) ⟨hx, hb, hml, hown, htu⟩ (ih l G hDD o_21 F_22 z ix b_24 mo (two z t) way ((hR.tell b_24q)) b_24d (((b_24q 48 (by decide)).1.trans h48)) hmo ((by omega)) ((by omega)) f4_ hw2 H.size) (cwV 2 htu gU_X8_tell rfl rfl rfl (by decide +kernel) ⟨show (2 * d + 2) + 1 ≤ 2 * (d + 1) + 2 by omega, show 8 + (4 + 11) + (50 * d + 100) ≤ 50 * (d + 1) + 100 by omega⟩) hP hK rfl hl.1 rfl (lv_room (Nat.le_of_ble_eq_true rfl)) dX8_tell_89) hS (fun o_26 F_27 H locs hw_28 hP hS => ?_)
      try dsimp only at hw_28
      obtain ⟨b_29, b_29a, b_29b, b_29d, b_29e⟩ := hw_28
      have b_29q : Kq LTl o F (o_26, F_27) := b_24q.tr b_29e
      have b_29R := hR.tell b_29q
      refine lv_goto (tgt := 173) hx hb dX8_tell_92 (by decide) ?_
      exact m_vret hx hb hr hK hP hS ⟨b_29, by omega, by omega, b_29d, b_29q⟩ dX8_tell_173 hlocks
    rcases Decidable.em (nI (srt z t) = 2) with c_30 | c_30
    · skip
      refine lv_tableIn (tgt := 95) hx hb dX8_tell_18 (by rw [c_30]; decide) (by rw [c_30]; decide) (by rw [c_30]; rfl) (by decide) ?_
      have hs9 : srt z t = 2 := (nI_eq (b := 2) (by omega) (by omega)).mp c_30
      obtain ⟨r1_, r2_, r3_, r4_⟩ := hR.2.2.2.2.1 t ht hs9
      refine lv_aload_n hx hb dX8_tell_95 rfl (lv_at hl 0 rfl) ?_
      refine lv_bipush (v := 123) hx hb dX8_tell_96 (by decide) ?_
      refine m_cv (m_runV (As := [.int 123]) (rest := []) ⟨hx, hb, hml, hown, htu⟩ (m_out l G hDD o F bm mo 123 h47 ((((Kq.rf (L := LTl) (o := o) (F := F)) 48 (by decide)).1.trans h48)) hmo ((by omega)) H.size) (cwV 1 htu gU_X8_out rfl rfl rfl (by decide +kernel) ⟨show 0 + 1 ≤ 2 * (d + 1) + 2 by omega, show 8 + (2 + 11) + 0 ≤ 50 * (d + 1) + 100 by omega⟩) hP hK rfl hl.1 rfl (lv_room (Nat.le_of_ble_eq_true rfl)) dX8_tell_98) hS (fun o_32 F_33 H locs hw_34 hP hS => ?_)
      try dsimp only at hw_34
      obtain ⟨b_35, b_35a, b_35b, b_35c, b_35d, b_35e⟩ := TL.out h47 (by omega) hw_34
      have b_35q : Kq LTl o F (o_32, F_33) := (Kq.rf (L := LTl) (o := o) (F := F)).tr b_35e
      have b_35l : bm < b_35 := by omega
      refine lv_iconst (v := 0) hx hb dX8_tell_101 (by decide) ?_
      refine lv_istore_n (lv' := [(3, .int 0), (0, .ref (mh G)), (1, .int (nI t)), (2, .int (nI way))]) hx hb dX8_tell_102 rfl hl (by decide) rfl (fun ls hl => ?_)
      refine w_loop (fun j H locs k sl g => ∃ (o1 : Nat → Int32) (F1 : Nat → Nat → Int32) (bm1 : Nat) (i : Nat) (ls : Array Slot), i + j = (parts z t).length ∧ o1 47 = nI bm1 ∧ bm < bm1 ∧ bm1 ≤ mo ∧ Kq LTl o F (o1, F1) ∧ k = 0 ∧ sl = 0 ∧ mP G o1 F1 H ∧ va_S (mA G s.heap.size) s.heap H locs ∧ lv_has ls 4 [(0, .ref (mh G)), (1, .int (nI t)), (2, .int (nI way)), (3, .int (nI i))] ∧ g = F0 m 103 ls []) ?_ ?_ ((parts z t).length) _ _ _ _ _ ⟨o_32, F_33, b_35, 0, ls, by omega, b_35d, by omega, by omega, b_35q, rfl, rfl, hP, hS, lv_sub hl [1, 2, 3, 0] rfl, rfl⟩
      · intro H locs k sl g hI
        obtain ⟨o1, F1, bm1, i, ls, hp0, hp1, hp2, hp3, hp4, rfl, rfl, hP, hS, hl, rfl⟩ := hI
        refine lv_iload_n hx hb dX8_tell_103 rfl (lv_at hl 3 rfl) ?_
        refine lv_aload_n hx hb dX8_tell_104 rfl (lv_at hl 0 rfl) ?_
        refine m_get (v := .ref (md G 10)) hx hb htu wu_in hown hK hP 10 (by decide) (htu _ U_80) rfl rfl dX8_tell_105 ?_
        refine lv_iload_n hx hb dX8_tell_108 rfl (lv_at hl 1 rfl) ?_
        refine m_ald (j := t) (v := nI ((parts z t).length)) hx hb hK hP 9 10 rfl (by omega) (by decide) ((congrFun ((hp4 10 (by decide)).2) _).trans r1_) dX8_tell_109 ?_
        refine lv_icmp_ge (tgt := 153) hx hb dX8_tell_110 (by decide) (fun c_36 => ?_) (fun c_36 => absurd (nI_le (by omega) (by omega)) c_36)
        refine lv_aload_n hx hb dX8_tell_153 rfl (lv_at hl 0 rfl) ?_
        refine lv_bipush (v := 125) hx hb dX8_tell_154 (by decide) ?_
        refine m_cv (m_runV (As := [.int 125]) (rest := []) ⟨hx, hb, hml, hown, htu⟩ (m_out l G hDD o1 F1 bm1 mo 125 hp1 (((hp4 48 (by decide)).1.trans h48)) hmo ((by omega)) H.size) (cwV 1 htu gU_X8_out rfl rfl rfl (by decide +kernel) ⟨show 0 + 1 ≤ 2 * (d + 1) + 2 by omega, show 8 + (2 + 11) + 0 ≤ 50 * (d + 1) + 100 by omega⟩) hP hK rfl hl.1 rfl (lv_room (Nat.le_of_ble_eq_true rfl)) dX8_tell_156) hS (fun o_38 F_39 H locs hw_40 hP hS => ?_)
        try dsimp only at hw_40
        obtain ⟨b_41, b_41a, b_41b, b_41c, b_41d, b_41e⟩ := TL.out hp1 (by omega) hw_40
        have b_41q : Kq LTl o F (o_38, F_39) := hp4.tr b_41e
        have b_41l : bm < b_41 := by omega
        refine lv_goto (tgt := 173) hx hb dX8_tell_159 (by decide) ?_
        exact m_vret hx hb hr hK hP hS ⟨b_41, by omega, by omega, b_41d, b_41q⟩ dX8_tell_173 hlocks
      · intro j ih9 H locs k sl g hI
        obtain ⟨o1, F1, bm1, i, ls, hp0, hp1, hp2, hp3, hp4, rfl, rfl, hP, hS, hl, rfl⟩ := hI
        have ni : i < (parts z t).length := by omega
        obtain ⟨q1_, q2_, q3_, q4_⟩ := r4_ i ni
        refine lv_iload_n hx hb dX8_tell_103 rfl (lv_at hl 3 rfl) ?_
        refine lv_aload_n hx hb dX8_tell_104 rfl (lv_at hl 0 rfl) ?_
        refine m_get (v := .ref (md G 10)) hx hb htu wu_in hown hK hP 10 (by decide) (htu _ U_80) rfl rfl dX8_tell_105 ?_
        refine lv_iload_n hx hb dX8_tell_108 rfl (lv_at hl 1 rfl) ?_
        refine m_ald (j := t) (v := nI ((parts z t).length)) hx hb hK hP 9 10 rfl (by omega) (by decide) ((congrFun ((hp4 10 (by decide)).2) _).trans r1_) dX8_tell_109 ?_
        refine lv_icmp_ge (tgt := 153) hx hb dX8_tell_110 (by decide) (fun c_42 => absurd c_42 (nI_ge ni (by omega))) (fun c_42 => ?_)
        refine lv_aload_n hx hb dX8_tell_113 rfl (lv_at hl 0 rfl) ?_
        refine lv_bipush (v := 97) hx hb dX8_tell_114 (by decide) ?_
        refine lv_aload_n hx hb dX8_tell_116 rfl (lv_at hl 0 rfl) ?_
        refine m_get (v := .ref (md G 12)) hx hb htu wu_in hown hK hP 12 (by decide) (htu _ U_89) rfl rfl dX8_tell_117 ?_
        refine lv_bipush (v := 6) hx hb dX8_tell_120 (by decide) ?_
        refine lv_iload_n hx hb dX8_tell_122 rfl (lv_at hl 1 rfl) ?_
        refine lv_imul hx hb dX8_tell_123 ?_
        refine m_top (y := nI (6 * t)) (pk_mul 6 t) ?_
        refine lv_iload_n hx hb dX8_tell_124 rfl (lv_at hl 3 rfl) ?_
        refine lv_iadd hx hb dX8_tell_125 ?_
        refine m_top (y := nI (6 * t + i)) (nI_add (6 * t) i) ?_
        refine m_ald (j := 6 * t + i) (v := F1 12 (6 * t + i)) hx hb hK hP 11 12 rfl (by omega) (by decide) rfl dX8_tell_126 ?_
        refine lv_iadd hx hb dX8_tell_127 ?_
        refine m_top (y := 97 + (F1 12 (6 * t + i))) rfl ?_
        refine m_cv (m_runV (As := [.int (97 + (F1 12 (6 * t + i)))]) (rest := []) ⟨hx, hb, hml, hown, htu⟩ (m_out l G hDD o1 F1 bm1 mo (97 + (F1 12 (6 * t + i))) hp1 (((hp4 48 (by decide)).1.trans h48)) hmo ((by omega)) H.size) (cwV 1 htu gU_X8_out rfl rfl rfl (by decide +kernel) ⟨show 0 + 1 ≤ 2 * (d + 1) + 2 by omega, show 8 + (2 + 11) + 0 ≤ 50 * (d + 1) + 100 by omega⟩) hP hK rfl hl.1 rfl (lv_room (Nat.le_of_ble_eq_true rfl)) dX8_tell_128) hS (fun o_44 F_45 H locs hw_46 hP hS => ?_)
        try dsimp only at hw_46
        obtain ⟨b_47, b_47a, b_47b, b_47c, b_47d, b_47e⟩ := TL.out hp1 (by omega) hw_46
        have b_47q : Kq LTl o F (o_44, F_45) := hp4.tr b_47e
        have b_47l : bm < b_47 := by omega
        refine lv_aload_n hx hb dX8_tell_131 rfl (lv_at hl 0 rfl) ?_
        refine lv_aload_n hx hb dX8_tell_132 rfl (lv_at hl 0 rfl) ?_
        refine m_get (v := .ref (md G 13)) hx hb htu wu_in hown hK hP 13 (by decide) (htu _ U_90) rfl rfl dX8_tell_133 ?_
        refine lv_bipush (v := 6) hx hb dX8_tell_136 (by decide) ?_
        refine lv_iload_n hx hb dX8_tell_138 rfl (lv_at hl 1 rfl) ?_
        refine lv_imul hx hb dX8_tell_139 ?_
        refine m_top (y := nI (6 * t)) (pk_mul 6 t) ?_
        refine lv_iload_n hx hb dX8_tell_140 rfl (lv_at hl 3 rfl) ?_
        refine lv_iadd hx hb dX8_tell_141 ?_
        refine m_top (y := nI (6 * t + i)) (nI_add (6 * t) i) ?_
        refine m_ald (j := 6 * t + i) (v := nI ((parts z t).getD i 0)) hx hb hK hP 12 13 rfl (by omega) (by decide) ((congrFun ((b_47q 13 (by decide)).2) _).trans q2_) dX8_tell_142 ?_
        refine lv_iload_n hx hb dX8_tell_143 rfl (lv_at hl 2 rfl) ?_
        refine m_cv (m_runV (As := [.int (nI ((parts z t).getD i 0)), .int (nI way)]) (rest := []) ⟨hx, hb, hml, hown, htu⟩ (ih l G hDD o_44 F_45 z ix b_47 mo ((parts z t).getD i 0) way ((hR.tell b_47q)) b_47d (((b_47q 48 (by decide)).1.trans h48)) hmo ((by omega)) ((by omega)) q3_ hw2 H.size) (cwV 2 htu gU_X8_tell rfl rfl rfl (by decide +kernel) ⟨show (2 * d + 2) + 1 ≤ 2 * (d + 1) + 2 by omega, show 8 + (4 + 11) + (50 * d + 100) ≤ 50 * (d + 1) + 100 by omega⟩) hP hK rfl hl.1 rfl (lv_room (Nat.le_of_ble_eq_true rfl)) dX8_tell_144) hS (fun o_49 F_50 H locs hw_51 hP hS => ?_)
        try dsimp only at hw_51
        obtain ⟨b_52, b_52a, b_52b, b_52d, b_52e⟩ := hw_51
        have b_52q : Kq LTl o F (o_49, F_50) := b_47q.tr b_52e
        have b_52R := hR.tell b_52q
        refine lv_iinc (v := nI (i + 1)) (lv' := [(3, .int (nI (i + 1))), (0, .ref (mh G)), (1, .int (nI t)), (2, .int (nI way))]) hx hb dX8_tell_147 hl (k := 3) rfl (nI_1 i) (by decide) rfl (fun ls hl => ?_)
        refine lv_goto (tgt := 103) hx hb dX8_tell_150 (by decide) ?_
        exact ih9 _ _ _ _ _ ⟨o_49, F_50, b_52, i + 1, ls, by omega, b_52d, by omega, by omega, b_52q, rfl, rfl, hP, hS, lv_sub hl [1, 2, 3, 0] rfl, rfl⟩
    have hout : (nI (srt z t)).toInt < 0 ∨ 2 < (nI (srt z t)).toInt := tb_out (nI (srt z t)) 0 2 (fun z h1 h2 e => by
      rcases (show z = 0 ∨ z = 1 ∨ z = 2 by omega) with rfl | rfl | rfl
      · exact c_2 (Int32.toInt_inj.mp (e.trans (by decide)))
      · exact c_14 (Int32.toInt_inj.mp (e.trans (by decide)))
      · exact c_30 (Int32.toInt_inj.mp (e.trans (by decide))))
    refine lv_tableOut (tgt := 162) hx hb dX8_tell_18 hout (by decide) ?_
    have s0n : srt z t ≠ 0 := fun h => c_2 (by rw [h]; rfl)
    have s1n : srt z t ≠ 1 := fun h => c_14 (by rw [h]; rfl)
    have s2n : srt z t ≠ 2 := fun h => c_30 (by rw [h]; rfl)
    have hs9 : srt z t = 3 := by omega
    obtain ⟨v1_, v2_, v3_⟩ := hR.2.2.2.2.2.1.1 t ht hs9
    refine lv_aload_n hx hb dX8_tell_162 rfl (lv_at hl 0 rfl) ?_
    refine lv_aload_n hx hb dX8_tell_163 rfl (lv_at hl 0 rfl) ?_
    refine m_get (v := .ref (md G 10)) hx hb htu wu_in hown hK hP 10 (by decide) (htu _ U_80) rfl rfl dX8_tell_164 ?_
    refine lv_iload_n hx hb dX8_tell_167 rfl (lv_at hl 1 rfl) ?_
    refine m_ald (j := t) (v := nI (one z t)) hx hb hK hP 9 10 rfl (by omega) (by decide) v1_ dX8_tell_168 ?_
    refine lv_iload_n hx hb dX8_tell_169 rfl (lv_at hl 2 rfl) ?_
    refine m_cv (m_runV (As := [.int (nI (one z t)), .int (nI way)]) (rest := []) ⟨hx, hb, hml, hown, htu⟩ (ihv l G hDD o F z ix bm mo (one z t) way hR h47 h48 hmo ((by omega)) ((by omega)) v2_ hw2 H.size) (cwV 2 htu gU_X8_tellVariable rfl rfl rfl (by decide +kernel) ⟨show (2 * (d + 1) + 1) + 1 ≤ 2 * (d + 1) + 2 by omega, show 8 + (7 + 11) + (50 * (d + 1) + 74) ≤ 50 * (d + 1) + 100 by omega⟩) hP hK rfl hl.1 rfl (lv_room (Nat.le_of_ble_eq_true rfl)) dX8_tell_170) hS (fun o_54 F_55 H locs hw_56 hP hS => ?_)
    try dsimp only at hw_56
    obtain ⟨b_57, b_57a, b_57b, b_57d, b_57e⟩ := hw_56
    have b_57q : Kq LTl o F (o_54, F_55) := (Kq.rf (L := LTl) (o := o) (F := F)).tr b_57e
    have b_57R := hR.tell b_57q
    exact m_vret hx hb hr hK hP hS ⟨b_57, by omega, by omega, b_57d, b_57q⟩ dX8_tell_173 hlocks
  · skip
    have nc_1 : bm = mo := (nI_eq (a := bm) (b := mo) (by omega) (by omega)).mp c_1
    exact m_vret hx hb hr hK hP hS ⟨bm, by omega, by omega, h47, (Kq.rf (L := LTl) (o := o) (F := F))⟩ dX8_tell_11 hlocks

