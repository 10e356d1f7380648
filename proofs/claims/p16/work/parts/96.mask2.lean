theorem dX8_count_0 : decode cX8_count 0 = .ok (.iload_n 1, 1) := by decide +kernel
theorem dX8_count_1 : decode cX8_count 1 = .ok (.tableswitch 85 0 3 #[31, 36, 41, 80], 31) := by decide +kernel
theorem dX8_count_32 : decode cX8_count 32 = .ok (.aload_n 0, 1) := by decide +kernel
theorem dX8_count_33 : decode cX8_count 33 = .ok (.getfield 137, 3) := by decide +kernel
theorem dX8_count_36 : decode cX8_count 36 = .ok (.ireturn, 1) := by decide +kernel
theorem dX8_count_37 : decode cX8_count 37 = .ok (.aload_n 0, 1) := by decide +kernel
theorem dX8_count_38 : decode cX8_count 38 = .ok (.getfield 171, 3) := by decide +kernel
theorem dX8_count_41 : decode cX8_count 41 = .ok (.ireturn, 1) := by decide +kernel
theorem dX8_count_42 : decode cX8_count 42 = .ok (.iconst 0, 1) := by decide +kernel
theorem dX8_count_43 : decode cX8_count 43 = .ok (.istore_n 2, 1) := by decide +kernel
theorem dX8_count_44 : decode cX8_count 44 = .ok (.iconst 0, 1) := by decide +kernel
theorem dX8_count_45 : decode cX8_count 45 = .ok (.istore_n 3, 1) := by decide +kernel
theorem dX8_count_46 : decode cX8_count 46 = .ok (.iload_n 3, 1) := by decide +kernel
theorem dX8_count_47 : decode cX8_count 47 = .ok (.aload_n 0, 1) := by decide +kernel
theorem dX8_count_48 : decode cX8_count 48 = .ok (.getfield 137, 3) := by decide +kernel
theorem dX8_count_51 : decode cX8_count 51 = .ok (.if_icmp .ge 28, 3) := by decide +kernel
theorem dX8_count_79 : decode cX8_count 79 = .ok (.iload_n 2, 1) := by decide +kernel
theorem dX8_count_80 : decode cX8_count 80 = .ok (.ireturn, 1) := by decide +kernel
theorem dX8_count_54 : decode cX8_count 54 = .ok (.iload_n 2, 1) := by decide +kernel
theorem dX8_count_55 : decode cX8_count 55 = .ok (.aload_n 0, 1) := by decide +kernel
theorem dX8_count_56 : decode cX8_count 56 = .ok (.getfield 25, 3) := by decide +kernel
theorem dX8_count_59 : decode cX8_count 59 = .ok (.iload_n 3, 1) := by decide +kernel
theorem dX8_count_60 : decode cX8_count 60 = .ok (.iaload, 1) := by decide +kernel
theorem dX8_count_61 : decode cX8_count 61 = .ok (.bipush (-9), 2) := by decide +kernel
theorem dX8_count_63 : decode cX8_count 63 = .ok (.if_icmp .ne 7, 3) := by decide +kernel
theorem dX8_count_70 : decode cX8_count 70 = .ok (.iconst 0, 1) := by decide +kernel
theorem dX8_count_71 : decode cX8_count 71 = .ok (.iadd, 1) := by decide +kernel
theorem dX8_count_72 : decode cX8_count 72 = .ok (.istore_n 2, 1) := by decide +kernel
theorem dX8_count_73 : decode cX8_count 73 = .ok (.iinc 3 1, 3) := by decide +kernel
theorem dX8_count_76 : decode cX8_count 76 = .ok (.goto (-30), 3) := by decide +kernel
theorem dX8_count_66 : decode cX8_count 66 = .ok (.iconst 1, 1) := by decide +kernel
theorem dX8_count_67 : decode cX8_count 67 = .ok (.goto 4, 3) := by decide +kernel
theorem dX8_count_81 : decode cX8_count 81 = .ok (.aload_n 0, 1) := by decide +kernel
theorem dX8_count_82 : decode cX8_count 82 = .ok (.getfield 131, 3) := by decide +kernel
theorem dX8_count_85 : decode cX8_count 85 = .ok (.ireturn, 1) := by decide +kernel
theorem dX8_count_86 : decode cX8_count 86 = .ok (.iconst (-1), 1) := by decide +kernel
theorem dX8_count_87 : decode cX8_count 87 = .ok (.ireturn, 1) := by decide +kernel
set_option maxHeartbeats 4000000 in
set_option maxRecDepth 100000 in
/-- count -/
theorem m_count (l : Launch) (G : mG) (hDD : mDD G) (o : Nat → Int32) (F : Nat → Nat → Int32) (N : Nat) (x : Int32) (h0N : o 0 = nI N) (hN : N ≤ 120) (sz : Nat) : Met l yX8_count (wU yX8_count cX8_count 4 (some .int)) { frames := 0, cells := 0, slots := 0, locals := 0 } (mPc G o F sz [.ref (mh G), .int x]) (mQi G sz (fun r u => u = (o, F) ∧ r = if x = 0 then nI N else if x = 1 then o 14 else if x = 2 then nI ((List.range N).countP (fun j => decide (F 6 j = -9))) else if x = 3 then o 61 else -1)) 0 0 (mA G sz) := by
  refine Met.ofW (cc := cX8_count) (maxL := 4) (ret := (some .int)) (by decide) rfl ?_
  intro p e s m args below meth c s₁ B hml hv
  obtain ⟨rfl, hsz, hP, hK⟩ := hv
  have hx := B.exec
  have hb := B.bytes
  have hr := B.returns
  have htu : ∀ w ∈ WU, w.before _ s = true := fun w h => atoms_spec (ws := (wU yX8_count cX8_count 4 (some .int))) B.pre w (List.mem_cons_of_mem _ h)
  have hown : s.vm.findClass RX8 = some m.cls := findClass_of_methodNamed B.named
  have hlocks := B.notSynchronized
  subst hsz
  have hS : va_S (mA G s.heap.size) s.heap s.heap [] := va_S.rf
  have hl := lv_entry ([.ref (mh G), .int x]) (n := 4) (Nat.le_of_ble_eq_true rfl)
  rw [lg_entry_eq]
  generalize (lg_sl ([.ref (mh G), .int x]) ++ List.replicate (4 - (lg_sl ([.ref (mh G), .int x])).length) Slot.unset).toArray = ls at hl ⊢
  have hl : lv_has ls 4 [(0, .ref (mh G)), (1, .int x)] := hl
  obtain ⟨H, hHe⟩ : ∃ H : Heap, H = s.heap := ⟨_, rfl⟩
  rw [← hHe] at hP
  have hS : va_S (mA G s.heap.size) s.heap H [] := by rw [hHe]; exact va_S.rf
  refine W.heq hHe ?_
  refine lv_iload_n hx hb dX8_count_0 rfl (lv_at hl 1 rfl) ?_
  rcases Decidable.em (x = 0) with c_1 | c_1
  · skip
    refine lv_tableIn (tgt := 32) hx hb dX8_count_1 (by rw [c_1]; decide) (by rw [c_1]; decide) (by rw [c_1]; rfl) (by decide) ?_
    refine lv_aload_n hx hb dX8_count_32 rfl (lv_at hl 0 rfl) ?_
    refine m_get (v := .int (nI N)) hx hb htu wu_in hown hK hP 0 (by decide) (htu _ U_1) rfl (m_v h0N) dX8_count_33 ?_
    exact m_iret (v := nI N) hx hb hr hK hP hS ⟨rfl, by rw [if_pos c_1]⟩ dX8_count_36 hlocks
  rcases Decidable.em (x = 1) with c_2 | c_2
  · skip
    refine lv_tableIn (tgt := 37) hx hb dX8_count_1 (by rw [c_2]; decide) (by rw [c_2]; decide) (by rw [c_2]; rfl) (by decide) ?_
    refine lv_aload_n hx hb dX8_count_37 rfl (lv_at hl 0 rfl) ?_
    refine m_get (v := .int (o 14)) hx hb htu wu_in hown hK hP 14 (by decide) (htu _ U_40) rfl rfl dX8_count_38 ?_
    exact m_iret (v := o 14) hx hb hr hK hP hS ⟨rfl, by rw [if_neg c_1, if_pos c_2]⟩ dX8_count_41 hlocks
  rcases Decidable.em (x = 2) with c_3 | c_3
  · skip
    refine lv_tableIn (tgt := 42) hx hb dX8_count_1 (by rw [c_3]; decide) (by rw [c_3]; decide) (by rw [c_3]; rfl) (by decide) ?_
    refine lv_iconst (v := 0) hx hb dX8_count_42 (by decide) ?_
    refine lv_istore_n (lv' := [(2, .int 0), (0, .ref (mh G)), (1, .int x)]) hx hb dX8_count_43 rfl hl (by decide) rfl (fun ls hl => ?_)
    refine lv_iconst (v := 0) hx hb dX8_count_44 (by decide) ?_
    refine lv_istore_n (lv' := [(3, .int 0), (2, .int 0), (0, .ref (mh G)), (1, .int x)]) hx hb dX8_count_45 rfl hl (by decide) rfl (fun ls hl => ?_)
    have hx0 : ¬ x = 0 := c_1
    have hx1 : ¬ x = 1 := c_2
    have hx2 : x = 2 := c_3
    refine w_loop (fun j H locs k sl g => ∃ (i : Nat) (ls : Array Slot), i + j = N ∧ k = 0 ∧ sl = 0 ∧ mP G o F H ∧ va_S (mA G s.heap.size) s.heap H locs ∧ lv_has ls 4 [(3, .int (nI i)), (2, .int (nI (((List.range i).countP (fun j => decide (F 6 j = -9)))))), (0, .ref (mh G)), (1, .int x)] ∧ g = F0 m 46 ls []) ?_ ?_ N _ _ _ _ _ ⟨0, ls, by omega, rfl, rfl, hP, hS, lv_sub hl [0, 1, 2, 3] rfl, rfl⟩
    · intro H locs k sl g hI
      obtain ⟨i, ls, hp0, rfl, rfl, hP, hS, hl, rfl⟩ := hI
      refine lv_iload_n hx hb dX8_count_46 rfl (lv_at hl 0 rfl) ?_
      refine lv_aload_n hx hb dX8_count_47 rfl (lv_at hl 2 rfl) ?_
      refine m_get (v := .int (nI N)) hx hb htu wu_in hown hK hP 0 (by decide) (htu _ U_1) rfl (m_v h0N) dX8_count_48 ?_
      refine lv_icmp_ge (tgt := 79) hx hb dX8_count_51 (by decide) (fun c_4 => ?_) (fun c_4 => absurd (nI_le (by omega) (by omega)) c_4)
      refine lv_iload_n hx hb dX8_count_79 rfl (lv_at hl 1 rfl) ?_
      exact m_iret (v := nI (((List.range i).countP (fun j => decide (F 6 j = -9))))) hx hb hr hK hP hS ⟨rfl, by rw [show i = N by omega, if_neg hx0, if_neg hx1, if_pos hx2]⟩ dX8_count_80 hlocks
    · intro j ih9 H locs k sl g hI
      obtain ⟨i, ls, hp0, rfl, rfl, hP, hS, hl, rfl⟩ := hI
      have ni : i < N := by omega
      have le9 : ((List.range i).countP (fun j => decide (F 6 j = -9))) ≤ i := by have := List.countP_le_length (p := fun j => decide (F 6 j = -9)) (l := List.range i); rw [List.length_range] at this; exact this
      refine lv_iload_n hx hb dX8_count_46 rfl (lv_at hl 0 rfl) ?_
      refine lv_aload_n hx hb dX8_count_47 rfl (lv_at hl 2 rfl) ?_
      refine m_get (v := .int (nI N)) hx hb htu wu_in hown hK hP 0 (by decide) (htu _ U_1) rfl (m_v h0N) dX8_count_48 ?_
      refine lv_icmp_ge (tgt := 79) hx hb dX8_count_51 (by decide) (fun c_5 => absurd c_5 (nI_ge ni (by omega))) (fun c_5 => ?_)
      refine lv_iload_n hx hb dX8_count_54 rfl (lv_at hl 1 rfl) ?_
      refine lv_aload_n hx hb dX8_count_55 rfl (lv_at hl 2 rfl) ?_
      refine m_get (v := .ref (md G 6)) hx hb htu wu_in hown hK hP 6 (by decide) (htu _ U_5) rfl rfl dX8_count_56 ?_
      refine lv_iload_n hx hb dX8_count_59 rfl (lv_at hl 0 rfl) ?_
      refine m_ald (j := i) (v := F 6 i) hx hb hK hP 6 6 rfl (by omega) (by decide) rfl dX8_count_60 ?_
      refine lv_bipush (v := (-9)) hx hb dX8_count_61 (by decide) ?_
      refine lv_icmp_ne (tgt := 70) hx hb dX8_count_63 (by decide) (fun c_6 => ?_) (fun c_6 => ?_)
      · skip
        refine lv_iconst (v := 0) hx hb dX8_count_70 (by decide) ?_
        refine lv_iadd hx hb dX8_count_71 ?_
        refine m_top (y := nI (((List.range (i + 1)).countP (fun j => decide (F 6 j = -9))))) (cP_n c_6) ?_
        refine lv_istore_n (lv' := [(2, .int (nI (((List.range (i + 1)).countP (fun j => decide (F 6 j = -9)))))), (3, .int (nI i)), (0, .ref (mh G)), (1, .int x)]) hx hb dX8_count_72 rfl hl (by decide) rfl (fun ls hl => ?_)
        refine lv_iinc (v := nI (i + 1)) (lv' := [(3, .int (nI (i + 1))), (2, .int (nI (((List.range (i + 1)).countP (fun j => decide (F 6 j = -9)))))), (0, .ref (mh G)), (1, .int x)]) hx hb dX8_count_73 hl (k := 1) rfl (nI_1 i) (by decide) rfl (fun ls hl => ?_)
        refine lv_goto (tgt := 46) hx hb dX8_count_76 (by decide) ?_
        exact ih9 _ _ _ _ _ ⟨i + 1, ls, by omega, rfl, rfl, hP, hS, lv_sub hl [0, 1, 2, 3] rfl, rfl⟩
      · skip
        refine lv_iconst (v := 1) hx hb dX8_count_66 (by decide) ?_
        refine lv_goto (tgt := 71) hx hb dX8_count_67 (by decide) ?_
        refine lv_iadd hx hb dX8_count_71 ?_
        refine m_top (y := nI (((List.range (i + 1)).countP (fun j => decide (F 6 j = -9))))) (cP_s c_6) ?_
        refine lv_istore_n (lv' := [(2, .int (nI (((List.range (i + 1)).countP (fun j => decide (F 6 j = -9)))))), (3, .int (nI i)), (0, .ref (mh G)), (1, .int x)]) hx hb dX8_count_72 rfl hl (by decide) rfl (fun ls hl => ?_)
        refine lv_iinc (v := nI (i + 1)) (lv' := [(3, .int (nI (i + 1))), (2, .int (nI (((List.range (i + 1)).countP (fun j => decide (F 6 j = -9)))))), (0, .ref (mh G)), (1, .int x)]) hx hb dX8_count_73 hl (k := 1) rfl (nI_1 i) (by decide) rfl (fun ls hl => ?_)
        refine lv_goto (tgt := 46) hx hb dX8_count_76 (by decide) ?_
        exact ih9 _ _ _ _ _ ⟨i + 1, ls, by omega, rfl, rfl, hP, hS, lv_sub hl [0, 1, 2, 3] rfl, rfl⟩
  rcases Decidable.em (x = 3) with c_7 | c_7
  · skip
    refine lv_tableIn (tgt := 81) hx hb dX8_count_1 (by rw [c_7]; decide) (by rw [c_7]; decide) (by rw [c_7]; rfl) (by decide) ?_
    refine lv_aload_n hx hb dX8_count_81 rfl (lv_at hl 0 rfl) ?_
    refine m_get (v := .int (o 61)) hx hb htu wu_in hown hK hP 61 (by decide) (htu _ U_222) rfl rfl dX8_count_82 ?_
    exact m_iret (v := o 61) hx hb hr hK hP hS ⟨rfl, by rw [if_neg c_1, if_neg c_2, if_neg c_3, if_pos c_7]⟩ dX8_count_85 hlocks
  have hout : (x).toInt < 0 ∨ 3 < (x).toInt := tb_out x 0 3 (fun z h1 h2 e => by
    rcases (show z = 0 ∨ z = 1 ∨ z = 2 ∨ z = 3 by omega) with rfl | rfl | rfl | rfl
    · exact c_1 (Int32.toInt_inj.mp (e.trans (by decide)))
    · exact c_2 (Int32.toInt_inj.mp (e.trans (by decide)))
    · exact c_3 (Int32.toInt_inj.mp (e.trans (by decide)))
    · exact c_7 (Int32.toInt_inj.mp (e.trans (by decide))))
  refine lv_tableOut (tgt := 86) hx hb dX8_count_1 hout (by decide) ?_
  refine lv_iconst (v := (-1)) hx hb dX8_count_86 (by decide) ?_
  exact m_iret (v := (-1)) hx hb hr hK hP hS ⟨rfl, by rw [if_neg c_1, if_neg c_2, if_neg c_3, if_neg c_7]⟩ dX8_count_87 hlocks

