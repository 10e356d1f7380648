theorem dX8_partsOf_0 : decode cX8_partsOf 0 = .ok (.iload_n 0, 1) := by decide +kernel
theorem dX8_partsOf_1 : decode cX8_partsOf 1 = .ok (.tableswitch 57 3 11 #[51, 53, 57, 51, 53, 53, 55, 53, 53], 51) := by decide +kernel
theorem dX8_partsOf_52 : decode cX8_partsOf 52 = .ok (.iconst 1, 1) := by decide +kernel
theorem dX8_partsOf_53 : decode cX8_partsOf 53 = .ok (.ireturn, 1) := by decide +kernel
theorem dX8_partsOf_54 : decode cX8_partsOf 54 = .ok (.iconst 2, 1) := by decide +kernel
theorem dX8_partsOf_55 : decode cX8_partsOf 55 = .ok (.ireturn, 1) := by decide +kernel
theorem dX8_partsOf_58 : decode cX8_partsOf 58 = .ok (.iconst 0, 1) := by decide +kernel
theorem dX8_partsOf_59 : decode cX8_partsOf 59 = .ok (.ireturn, 1) := by decide +kernel
theorem dX8_partsOf_56 : decode cX8_partsOf 56 = .ok (.iconst 3, 1) := by decide +kernel
theorem dX8_partsOf_57 : decode cX8_partsOf 57 = .ok (.ireturn, 1) := by decide +kernel
theorem dX8_hasName_0 : decode cX8_hasName 0 = .ok (.iload_n 0, 1) := by decide +kernel
theorem dX8_hasName_1 : decode cX8_hasName 1 = .ok (.iconst 2, 1) := by decide +kernel
theorem dX8_hasName_2 : decode cX8_hasName 2 = .ok (.if_icmp .eq 26, 3) := by decide +kernel
theorem dX8_hasName_28 : decode cX8_hasName 28 = .ok (.iconst 1, 1) := by decide +kernel
theorem dX8_hasName_29 : decode cX8_hasName 29 = .ok (.goto 4, 3) := by decide +kernel
theorem dX8_hasName_33 : decode cX8_hasName 33 = .ok (.ireturn, 1) := by decide +kernel
theorem dX8_hasName_5 : decode cX8_hasName 5 = .ok (.iload_n 0, 1) := by decide +kernel
theorem dX8_hasName_6 : decode cX8_hasName 6 = .ok (.iconst 3, 1) := by decide +kernel
theorem dX8_hasName_7 : decode cX8_hasName 7 = .ok (.if_icmp .eq 21, 3) := by decide +kernel
theorem dX8_hasName_10 : decode cX8_hasName 10 = .ok (.iload_n 0, 1) := by decide +kernel
theorem dX8_hasName_11 : decode cX8_hasName 11 = .ok (.bipush 6, 2) := by decide +kernel
theorem dX8_hasName_13 : decode cX8_hasName 13 = .ok (.if_icmp .eq 15, 3) := by decide +kernel
theorem dX8_hasName_16 : decode cX8_hasName 16 = .ok (.iload_n 0, 1) := by decide +kernel
theorem dX8_hasName_17 : decode cX8_hasName 17 = .ok (.bipush 7, 2) := by decide +kernel
theorem dX8_hasName_19 : decode cX8_hasName 19 = .ok (.if_icmp .eq 9, 3) := by decide +kernel
theorem dX8_hasName_22 : decode cX8_hasName 22 = .ok (.iload_n 0, 1) := by decide +kernel
theorem dX8_hasName_23 : decode cX8_hasName 23 = .ok (.bipush 8, 2) := by decide +kernel
theorem dX8_hasName_25 : decode cX8_hasName 25 = .ok (.if_icmp .ne 7, 3) := by decide +kernel
theorem dX8_hasName_32 : decode cX8_hasName 32 = .ok (.iconst 0, 1) := by decide +kernel
theorem dX8_isFree_0 : decode cX8_isFree 0 = .ok (.aload_n 0, 1) := by decide +kernel
theorem dX8_isFree_1 : decode cX8_isFree 1 = .ok (.iload_n 1, 1) := by decide +kernel
theorem dX8_isFree_2 : decode cX8_isFree 2 = .ok (.invokevirtual 144, 3) := by decide +kernel
theorem dX8_isFree_5 : decode cX8_isFree 5 = .ok (.ifCond .eq 18, 3) := by decide +kernel
theorem dX8_isFree_8 : decode cX8_isFree 8 = .ok (.aload_n 0, 1) := by decide +kernel
theorem dX8_isFree_9 : decode cX8_isFree 9 = .ok (.getfield 25, 3) := by decide +kernel
theorem dX8_isFree_12 : decode cX8_isFree 12 = .ok (.iload_n 1, 1) := by decide +kernel
theorem dX8_isFree_13 : decode cX8_isFree 13 = .ok (.iaload, 1) := by decide +kernel
theorem dX8_isFree_14 : decode cX8_isFree 14 = .ok (.bipush (-9), 2) := by decide +kernel
theorem dX8_isFree_16 : decode cX8_isFree 16 = .ok (.if_icmp .ne 7, 3) := by decide +kernel
theorem dX8_isFree_23 : decode cX8_isFree 23 = .ok (.iconst 0, 1) := by decide +kernel
theorem dX8_isFree_24 : decode cX8_isFree 24 = .ok (.ireturn, 1) := by decide +kernel
theorem dX8_isFree_19 : decode cX8_isFree 19 = .ok (.iconst 1, 1) := by decide +kernel
theorem dX8_isFree_20 : decode cX8_isFree 20 = .ok (.goto 4, 3) := by decide +kernel
theorem dX8_placeOf_0 : decode cX8_placeOf 0 = .ok (.iconst 0, 1) := by decide +kernel
theorem dX8_placeOf_1 : decode cX8_placeOf 1 = .ok (.istore_n 3, 1) := by decide +kernel
theorem dX8_placeOf_2 : decode cX8_placeOf 2 = .ok (.iload_n 3, 1) := by decide +kernel
theorem dX8_placeOf_3 : decode cX8_placeOf 3 = .ok (.aload_n 0, 1) := by decide +kernel
theorem dX8_placeOf_4 : decode cX8_placeOf 4 = .ok (.getfield 16, 3) := by decide +kernel
theorem dX8_placeOf_7 : decode cX8_placeOf 7 = .ok (.iload_n 1, 1) := by decide +kernel
theorem dX8_placeOf_8 : decode cX8_placeOf 8 = .ok (.iaload, 1) := by decide +kernel
theorem dX8_placeOf_9 : decode cX8_placeOf 9 = .ok (.if_icmp .ge 26, 3) := by decide +kernel
theorem dX8_placeOf_35 : decode cX8_placeOf 35 = .ok (.bipush (-9), 2) := by decide +kernel
theorem dX8_placeOf_37 : decode cX8_placeOf 37 = .ok (.ireturn, 1) := by decide +kernel
theorem dX8_placeOf_12 : decode cX8_placeOf 12 = .ok (.aload_n 0, 1) := by decide +kernel
theorem dX8_placeOf_13 : decode cX8_placeOf 13 = .ok (.getfield 22, 3) := by decide +kernel
theorem dX8_placeOf_16 : decode cX8_placeOf 16 = .ok (.bipush 6, 2) := by decide +kernel
theorem dX8_placeOf_18 : decode cX8_placeOf 18 = .ok (.iload_n 1, 1) := by decide +kernel
theorem dX8_placeOf_19 : decode cX8_placeOf 19 = .ok (.imul, 1) := by decide +kernel
theorem dX8_placeOf_20 : decode cX8_placeOf 20 = .ok (.iload_n 3, 1) := by decide +kernel
theorem dX8_placeOf_21 : decode cX8_placeOf 21 = .ok (.iadd, 1) := by decide +kernel
theorem dX8_placeOf_22 : decode cX8_placeOf 22 = .ok (.iaload, 1) := by decide +kernel
theorem dX8_placeOf_23 : decode cX8_placeOf 23 = .ok (.iload_n 2, 1) := by decide +kernel
theorem dX8_placeOf_24 : decode cX8_placeOf 24 = .ok (.if_icmp .ne 5, 3) := by decide +kernel
theorem dX8_placeOf_29 : decode cX8_placeOf 29 = .ok (.iinc 3 1, 3) := by decide +kernel
theorem dX8_placeOf_32 : decode cX8_placeOf 32 = .ok (.goto (-30), 3) := by decide +kernel
theorem dX8_placeOf_27 : decode cX8_placeOf 27 = .ok (.iload_n 3, 1) := by decide +kernel
theorem dX8_placeOf_28 : decode cX8_placeOf 28 = .ok (.ireturn, 1) := by decide +kernel
set_option maxHeartbeats 4000000 in
set_option maxRecDepth 100000 in
/-- partsOf -/
theorem m_partsOf (l : Launch) (G : mG) (hDD : mDD G) (o : Nat → Int32) (F : Nat → Nat → Int32) (x : Int32) (sz : Nat) : Met l yX8_partsOf (wU yX8_partsOf cX8_partsOf 1 (some .int)) { frames := 0, cells := 0, slots := 0, locals := 0 } (mPc G o F sz [.int x]) (mQi G sz (fun r u => u = (o, F) ∧ r = mPts x)) 0 0 (mA G sz) := by
  refine Met.ofW (cc := cX8_partsOf) (maxL := 1) (ret := (some .int)) (by decide) rfl ?_
  intro p e s m args below meth c s₁ B hml hv
  obtain ⟨rfl, hsz, hP, hK⟩ := hv
  have hx := B.exec
  have hb := B.bytes
  have hr := B.returns
  have htu : ∀ w ∈ WU, w.before _ s = true := fun w h => atoms_spec (ws := (wU yX8_partsOf cX8_partsOf 1 (some .int))) B.pre w (List.mem_cons_of_mem _ h)
  have hown : s.vm.findClass RX8 = some m.cls := findClass_of_methodNamed B.named
  have hlocks := B.notSynchronized
  subst hsz
  have hS : va_S (mA G s.heap.size) s.heap s.heap [] := va_S.rf
  have hl := lv_entry ([.int x]) (n := 1) (Nat.le_of_ble_eq_true rfl)
  rw [lg_entry_eq]
  generalize (lg_sl ([.int x]) ++ List.replicate (1 - (lg_sl ([.int x])).length) Slot.unset).toArray = ls at hl ⊢
  have hl : lv_has ls 1 [(0, .int x)] := hl
  obtain ⟨H, hHe⟩ : ∃ H : Heap, H = s.heap := ⟨_, rfl⟩
  rw [← hHe] at hP
  have hS : va_S (mA G s.heap.size) s.heap H [] := by rw [hHe]; exact va_S.rf
  refine W.heq hHe ?_
  refine lv_iload_n hx hb dX8_partsOf_0 rfl (lv_at hl 0 rfl) ?_
  rcases Decidable.em (x = 3) with c_1 | c_1
  · skip
    refine lv_tableIn (tgt := 52) hx hb dX8_partsOf_1 (by rw [c_1]; decide) (by rw [c_1]; decide) (by rw [c_1]; rfl) (by decide) ?_
    refine lv_iconst (v := 1) hx hb dX8_partsOf_52 (by decide) ?_
    exact m_iret (v := 1) hx hb hr hK hP hS ⟨rfl, by rw [c_1]; rfl⟩ dX8_partsOf_53 hlocks
  rcases Decidable.em (x = 4) with c_2 | c_2
  · skip
    refine lv_tableIn (tgt := 54) hx hb dX8_partsOf_1 (by rw [c_2]; decide) (by rw [c_2]; decide) (by rw [c_2]; rfl) (by decide) ?_
    refine lv_iconst (v := 2) hx hb dX8_partsOf_54 (by decide) ?_
    exact m_iret (v := 2) hx hb hr hK hP hS ⟨rfl, by rw [c_2]; rfl⟩ dX8_partsOf_55 hlocks
  rcases Decidable.em (x = 5) with c_3 | c_3
  · skip
    refine lv_tableIn (tgt := 58) hx hb dX8_partsOf_1 (by rw [c_3]; decide) (by rw [c_3]; decide) (by rw [c_3]; rfl) (by decide) ?_
    refine lv_iconst (v := 0) hx hb dX8_partsOf_58 (by decide) ?_
    exact m_iret (v := 0) hx hb hr hK hP hS ⟨rfl, by rw [c_3]; rfl⟩ dX8_partsOf_59 hlocks
  rcases Decidable.em (x = 6) with c_4 | c_4
  · skip
    refine lv_tableIn (tgt := 52) hx hb dX8_partsOf_1 (by rw [c_4]; decide) (by rw [c_4]; decide) (by rw [c_4]; rfl) (by decide) ?_
    refine lv_iconst (v := 1) hx hb dX8_partsOf_52 (by decide) ?_
    exact m_iret (v := 1) hx hb hr hK hP hS ⟨rfl, by rw [c_4]; rfl⟩ dX8_partsOf_53 hlocks
  rcases Decidable.em (x = 7) with c_5 | c_5
  · skip
    refine lv_tableIn (tgt := 54) hx hb dX8_partsOf_1 (by rw [c_5]; decide) (by rw [c_5]; decide) (by rw [c_5]; rfl) (by decide) ?_
    refine lv_iconst (v := 2) hx hb dX8_partsOf_54 (by decide) ?_
    exact m_iret (v := 2) hx hb hr hK hP hS ⟨rfl, by rw [c_5]; rfl⟩ dX8_partsOf_55 hlocks
  rcases Decidable.em (x = 8) with c_6 | c_6
  · skip
    refine lv_tableIn (tgt := 54) hx hb dX8_partsOf_1 (by rw [c_6]; decide) (by rw [c_6]; decide) (by rw [c_6]; rfl) (by decide) ?_
    refine lv_iconst (v := 2) hx hb dX8_partsOf_54 (by decide) ?_
    exact m_iret (v := 2) hx hb hr hK hP hS ⟨rfl, by rw [c_6]; rfl⟩ dX8_partsOf_55 hlocks
  rcases Decidable.em (x = 9) with c_7 | c_7
  · skip
    refine lv_tableIn (tgt := 56) hx hb dX8_partsOf_1 (by rw [c_7]; decide) (by rw [c_7]; decide) (by rw [c_7]; rfl) (by decide) ?_
    refine lv_iconst (v := 3) hx hb dX8_partsOf_56 (by decide) ?_
    exact m_iret (v := 3) hx hb hr hK hP hS ⟨rfl, by rw [c_7]; rfl⟩ dX8_partsOf_57 hlocks
  rcases Decidable.em (x = 10) with c_8 | c_8
  · skip
    refine lv_tableIn (tgt := 54) hx hb dX8_partsOf_1 (by rw [c_8]; decide) (by rw [c_8]; decide) (by rw [c_8]; rfl) (by decide) ?_
    refine lv_iconst (v := 2) hx hb dX8_partsOf_54 (by decide) ?_
    exact m_iret (v := 2) hx hb hr hK hP hS ⟨rfl, by rw [c_8]; rfl⟩ dX8_partsOf_55 hlocks
  rcases Decidable.em (x = 11) with c_9 | c_9
  · skip
    refine lv_tableIn (tgt := 54) hx hb dX8_partsOf_1 (by rw [c_9]; decide) (by rw [c_9]; decide) (by rw [c_9]; rfl) (by decide) ?_
    refine lv_iconst (v := 2) hx hb dX8_partsOf_54 (by decide) ?_
    exact m_iret (v := 2) hx hb hr hK hP hS ⟨rfl, by rw [c_9]; rfl⟩ dX8_partsOf_55 hlocks
  have hout : (x).toInt < 3 ∨ 11 < (x).toInt := tb_out x 3 11 (fun z h1 h2 e => by
    rcases (show z = 3 ∨ z = 4 ∨ z = 5 ∨ z = 6 ∨ z = 7 ∨ z = 8 ∨ z = 9 ∨ z = 10 ∨ z = 11 by omega) with rfl | rfl | rfl | rfl | rfl | rfl | rfl | rfl | rfl
    · exact c_1 (Int32.toInt_inj.mp (e.trans (by decide)))
    · exact c_2 (Int32.toInt_inj.mp (e.trans (by decide)))
    · exact c_3 (Int32.toInt_inj.mp (e.trans (by decide)))
    · exact c_4 (Int32.toInt_inj.mp (e.trans (by decide)))
    · exact c_5 (Int32.toInt_inj.mp (e.trans (by decide)))
    · exact c_6 (Int32.toInt_inj.mp (e.trans (by decide)))
    · exact c_7 (Int32.toInt_inj.mp (e.trans (by decide)))
    · exact c_8 (Int32.toInt_inj.mp (e.trans (by decide)))
    · exact c_9 (Int32.toInt_inj.mp (e.trans (by decide))))
  refine lv_tableOut (tgt := 58) hx hb dX8_partsOf_1 hout (by decide) ?_
  refine lv_iconst (v := 0) hx hb dX8_partsOf_58 (by decide) ?_
  exact m_iret (v := 0) hx hb hr hK hP hS ⟨rfl, by unfold mPts; rw [if_neg (fun h => h.elim (fun h => c_1 h) (fun h => c_4 h)), if_neg c_7, if_neg (fun h => h.elim (fun h => c_2 h) (fun h => h.elim (fun h => c_5 h) (fun h => h.elim (fun h => c_6 h) (fun h => h.elim (fun h => c_8 h) (fun h => c_9 h)))))]⟩ dX8_partsOf_59 hlocks

set_option maxHeartbeats 4000000 in
set_option maxRecDepth 100000 in
/-- hasName -/
theorem m_hasName (l : Launch) (G : mG) (hDD : mDD G) (o : Nat → Int32) (F : Nat → Nat → Int32) (x : Int32) (sz : Nat) : Met l yX8_hasName (wU yX8_hasName cX8_hasName 1 (some .boolean)) { frames := 0, cells := 0, slots := 0, locals := 0 } (mPc G o F sz [.int x]) (mQi G sz (fun r u => u = (o, F) ∧ r = mNam x)) 0 0 (mA G sz) := by
  refine Met.ofW (cc := cX8_hasName) (maxL := 1) (ret := (some .boolean)) (by decide) rfl ?_
  intro p e s m args below meth c s₁ B hml hv
  obtain ⟨rfl, hsz, hP, hK⟩ := hv
  have hx := B.exec
  have hb := B.bytes
  have hr := B.returns
  have htu : ∀ w ∈ WU, w.before _ s = true := fun w h => atoms_spec (ws := (wU yX8_hasName cX8_hasName 1 (some .boolean))) B.pre w (List.mem_cons_of_mem _ h)
  have hown : s.vm.findClass RX8 = some m.cls := findClass_of_methodNamed B.named
  have hlocks := B.notSynchronized
  subst hsz
  have hS : va_S (mA G s.heap.size) s.heap s.heap [] := va_S.rf
  have hl := lv_entry ([.int x]) (n := 1) (Nat.le_of_ble_eq_true rfl)
  rw [lg_entry_eq]
  generalize (lg_sl ([.int x]) ++ List.replicate (1 - (lg_sl ([.int x])).length) Slot.unset).toArray = ls at hl ⊢
  have hl : lv_has ls 1 [(0, .int x)] := hl
  obtain ⟨H, hHe⟩ : ∃ H : Heap, H = s.heap := ⟨_, rfl⟩
  rw [← hHe] at hP
  have hS : va_S (mA G s.heap.size) s.heap H [] := by rw [hHe]; exact va_S.rf
  refine W.heq hHe ?_
  refine lv_iload_n hx hb dX8_hasName_0 rfl (lv_at hl 0 rfl) ?_
  refine lv_iconst (v := 2) hx hb dX8_hasName_1 (by decide) ?_
  refine lv_icmp_eq (tgt := 28) hx hb dX8_hasName_2 (by decide) (fun c_1 => ?_) (fun c_1 => ?_)
  · skip
    refine lv_iconst (v := 1) hx hb dX8_hasName_28 (by decide) ?_
    refine lv_goto (tgt := 33) hx hb dX8_hasName_29 (by decide) ?_
    exact m_zret (v := 1) hx hb hr hK hP hS rfl ⟨rfl, by unfold mNam; rw [if_pos c_1]⟩ dX8_hasName_33 hlocks
  · skip
    refine lv_iload_n hx hb dX8_hasName_5 rfl (lv_at hl 0 rfl) ?_
    refine lv_iconst (v := 3) hx hb dX8_hasName_6 (by decide) ?_
    refine lv_icmp_eq (tgt := 28) hx hb dX8_hasName_7 (by decide) (fun c_2 => ?_) (fun c_2 => ?_)
    · skip
      refine lv_iconst (v := 1) hx hb dX8_hasName_28 (by decide) ?_
      refine lv_goto (tgt := 33) hx hb dX8_hasName_29 (by decide) ?_
      exact m_zret (v := 1) hx hb hr hK hP hS rfl ⟨rfl, by unfold mNam; rw [if_neg c_1, if_pos c_2]⟩ dX8_hasName_33 hlocks
    · skip
      refine lv_iload_n hx hb dX8_hasName_10 rfl (lv_at hl 0 rfl) ?_
      refine lv_bipush (v := 6) hx hb dX8_hasName_11 (by decide) ?_
      refine lv_icmp_eq (tgt := 28) hx hb dX8_hasName_13 (by decide) (fun c_3 => ?_) (fun c_3 => ?_)
      · skip
        refine lv_iconst (v := 1) hx hb dX8_hasName_28 (by decide) ?_
        refine lv_goto (tgt := 33) hx hb dX8_hasName_29 (by decide) ?_
        exact m_zret (v := 1) hx hb hr hK hP hS rfl ⟨rfl, by unfold mNam; rw [if_neg c_1, if_neg c_2, if_pos c_3]⟩ dX8_hasName_33 hlocks
      · skip
        refine lv_iload_n hx hb dX8_hasName_16 rfl (lv_at hl 0 rfl) ?_
        refine lv_bipush (v := 7) hx hb dX8_hasName_17 (by decide) ?_
        refine lv_icmp_eq (tgt := 28) hx hb dX8_hasName_19 (by decide) (fun c_4 => ?_) (fun c_4 => ?_)
        · skip
          refine lv_iconst (v := 1) hx hb dX8_hasName_28 (by decide) ?_
          refine lv_goto (tgt := 33) hx hb dX8_hasName_29 (by decide) ?_
          exact m_zret (v := 1) hx hb hr hK hP hS rfl ⟨rfl, by unfold mNam; rw [if_neg c_1, if_neg c_2, if_neg c_3, if_pos c_4]⟩ dX8_hasName_33 hlocks
        · skip
          refine lv_iload_n hx hb dX8_hasName_22 rfl (lv_at hl 0 rfl) ?_
          refine lv_bipush (v := 8) hx hb dX8_hasName_23 (by decide) ?_
          refine lv_icmp_ne (tgt := 32) hx hb dX8_hasName_25 (by decide) (fun c_5 => ?_) (fun c_5 => ?_)
          · skip
            refine lv_iconst (v := 0) hx hb dX8_hasName_32 (by decide) ?_
            exact m_zret (v := 0) hx hb hr hK hP hS rfl ⟨rfl, by unfold mNam; rw [if_neg c_1, if_neg c_2, if_neg c_3, if_neg c_4, if_neg c_5]⟩ dX8_hasName_33 hlocks
          · skip
            refine lv_iconst (v := 1) hx hb dX8_hasName_28 (by decide) ?_
            refine lv_goto (tgt := 33) hx hb dX8_hasName_29 (by decide) ?_
            exact m_zret (v := 1) hx hb hr hK hP hS rfl ⟨rfl, by unfold mNam; rw [if_neg c_1, if_neg c_2, if_neg c_3, if_neg c_4, if_pos c_5]⟩ dX8_hasName_33 hlocks

set_option maxHeartbeats 4000000 in
set_option maxRecDepth 100000 in
/-- isFree -/
theorem m_isFree (l : Launch) (G : mG) (hDD : mDD G) (o : Nat → Int32) (F : Nat → Nat → Int32) (N : Nat) (x : Int32) (h0N : o 0 = nI N) (hN : N ≤ 120) (sz : Nat) : Met l yX8_isFree (wU yX8_isFree cX8_isFree 2 (some .boolean)) { frames := 2, cells := 0, slots := 0, locals := 43 } (mPc G o F sz [.ref (mh G), .int x]) (mQi G sz (fun r u => u = (o, F) ∧ ((r = 1 ∧ Fre N F x) ∨ (r = 0 ∧ ¬ Fre N F x)))) 0 0 (mA G sz) := by
  refine Met.ofW (cc := cX8_isFree) (maxL := 2) (ret := (some .boolean)) (by decide) rfl ?_
  intro p e s m args below meth c s₁ B hml hv
  obtain ⟨rfl, hsz, hP, hK⟩ := hv
  have hx := B.exec
  have hb := B.bytes
  have hr := B.returns
  have htu : ∀ w ∈ WU, w.before _ s = true := fun w h => atoms_spec (ws := (wU yX8_isFree cX8_isFree 2 (some .boolean))) B.pre w (List.mem_cons_of_mem _ h)
  have hown : s.vm.findClass RX8 = some m.cls := findClass_of_methodNamed B.named
  have hlocks := B.notSynchronized
  subst hsz
  have hS : va_S (mA G s.heap.size) s.heap s.heap [] := va_S.rf
  have hl := lv_entry ([.ref (mh G), .int x]) (n := 2) (Nat.le_of_ble_eq_true rfl)
  rw [lg_entry_eq]
  generalize (lg_sl ([.ref (mh G), .int x]) ++ List.replicate (2 - (lg_sl ([.ref (mh G), .int x])).length) Slot.unset).toArray = ls at hl ⊢
  have hl : lv_has ls 2 [(0, .ref (mh G)), (1, .int x)] := hl
  obtain ⟨H, hHe⟩ : ∃ H : Heap, H = s.heap := ⟨_, rfl⟩
  rw [← hHe] at hP
  have hS : va_S (mA G s.heap.size) s.heap H [] := by rw [hHe]; exact va_S.rf
  refine W.heq hHe ?_
  refine lv_aload_n hx hb dX8_isFree_0 rfl (lv_at hl 0 rfl) ?_
  refine lv_iload_n hx hb dX8_isFree_1 rfl (lv_at hl 1 rfl) ?_
  refine m_ci (m_runV (As := [.int x]) (rest := []) ⟨hx, hb, hml, hown, htu⟩ (m_isNode l G hDD o F N x h0N hN H.size) (cwV 1 htu gU_X8_isNode rfl rfl rfl (by decide +kernel) ⟨Nat.le_of_ble_eq_true rfl, Nat.le_of_ble_eq_true rfl⟩) hP hK rfl hl.1 rfl (lv_room (Nat.le_of_ble_eq_true rfl)) dX8_isFree_2) hS (fun r_1 o_2 F_3 H locs hw_4 hP hS => ?_)
  try dsimp only at hw_4
  obtain ⟨hu, hc⟩ := hw_4
  rcases hc with ⟨g1, q, g2, g3⟩ | ⟨g1, g2⟩
  · skip
    subst g1
    obtain ⟨h91, h92⟩ := Prod.mk.inj hu
    have h91 := h91.symm
    subst h91
    have h92 := h92.symm
    subst h92
    subst g3
    refine lv_if_eq (tgt := 23) hx hb dX8_isFree_5 (by decide) (fun c_5 => absurd c_5 (by decide)) (fun c_5 => ?_)
    refine lv_aload_n hx hb dX8_isFree_8 rfl (lv_at hl 0 rfl) ?_
    refine m_get (v := .ref (md G 6)) hx hb htu wu_in hown hK hP 6 (by decide) (htu _ U_5) rfl rfl dX8_isFree_9 ?_
    refine lv_iload_n hx hb dX8_isFree_12 rfl (lv_at hl 1 rfl) ?_
    refine m_ald (j := q) (v := F 6 q) hx hb hK hP 6 6 rfl (by omega) (by decide) rfl dX8_isFree_13 ?_
    refine lv_bipush (v := (-9)) hx hb dX8_isFree_14 (by decide) ?_
    refine lv_icmp_ne (tgt := 23) hx hb dX8_isFree_16 (by decide) (fun c_6 => ?_) (fun c_6 => ?_)
    · skip
      refine lv_iconst (v := 0) hx hb dX8_isFree_23 (by decide) ?_
      exact m_zret (v := 0) hx hb hr hK hP hS rfl ⟨rfl, Or.inr ⟨rfl, fun h => by obtain ⟨j, h1, h2, h3⟩ := h; have := (nI_eq (by omega) (by omega)).mp h2; subst this; exact c_6 h3⟩⟩ dX8_isFree_24 hlocks
    · skip
      refine lv_iconst (v := 1) hx hb dX8_isFree_19 (by decide) ?_
      refine lv_goto (tgt := 24) hx hb dX8_isFree_20 (by decide) ?_
      exact m_zret (v := 1) hx hb hr hK hP hS rfl ⟨rfl, Or.inl ⟨rfl, q, g2, rfl, c_6⟩⟩ dX8_isFree_24 hlocks
  · skip
    subst g1
    obtain ⟨h91, h92⟩ := Prod.mk.inj hu
    have h91 := h91.symm
    subst h91
    have h92 := h92.symm
    subst h92
    refine lv_if_eq (tgt := 23) hx hb dX8_isFree_5 (by decide) (fun c_7 => ?_) (fun c_7 => absurd (by decide) c_7)
    refine lv_iconst (v := 0) hx hb dX8_isFree_23 (by decide) ?_
    exact m_zret (v := 0) hx hb hr hK hP hS rfl ⟨rfl, Or.inr ⟨rfl, fun h => g2 (by obtain ⟨j, h1, h2, h3⟩ := h; exact ⟨j, h1, h2⟩)⟩⟩ dX8_isFree_24 hlocks

set_option maxHeartbeats 4000000 in
set_option maxRecDepth 100000 in
/-- placeOf -/
theorem m_placeOf (l : Launch) (G : mG) (hDD : mDD G) (o : Nat → Int32) (F : Nat → Nat → Int32) (N : Nat) (n : Nat) (m9 : Nat) (x : Int32) (hN : N ≤ 120) (hn : n < N) (h3 : F 3 n = nI m9) (hm : m9 ≤ 6) (sz : Nat) : Met l yX8_placeOf (wU yX8_placeOf cX8_placeOf 4 (some .int)) { frames := 0, cells := 0, slots := 0, locals := 0 } (mPc G o F sz [.ref (mh G), .int (nI n), .int x]) (mQi G sz (fun r u => u = (o, F) ∧ ((r = -9 ∧ ∀ i, i < m9 → F 5 (6 * n + i) ≠ x) ∨ ∃ i, i < m9 ∧ r = nI i ∧ F 5 (6 * n + i) = x ∧ ∀ j, j < i → F 5 (6 * n + j) ≠ x))) 0 0 (mA G sz) := by
  refine Met.ofW (cc := cX8_placeOf) (maxL := 4) (ret := (some .int)) (by decide) rfl ?_
  intro p e s m args below meth c s₁ B hml hv
  obtain ⟨rfl, hsz, hP, hK⟩ := hv
  have hx := B.exec
  have hb := B.bytes
  have hr := B.returns
  have htu : ∀ w ∈ WU, w.before _ s = true := fun w h => atoms_spec (ws := (wU yX8_placeOf cX8_placeOf 4 (some .int))) B.pre w (List.mem_cons_of_mem _ h)
  have hown : s.vm.findClass RX8 = some m.cls := findClass_of_methodNamed B.named
  have hlocks := B.notSynchronized
  subst hsz
  have hS : va_S (mA G s.heap.size) s.heap s.heap [] := va_S.rf
  have hl := lv_entry ([.ref (mh G), .int (nI n), .int x]) (n := 4) (Nat.le_of_ble_eq_true rfl)
  rw [lg_entry_eq]
  generalize (lg_sl ([.ref (mh G), .int (nI n), .int x]) ++ List.replicate (4 - (lg_sl ([.ref (mh G), .int (nI n), .int x])).length) Slot.unset).toArray = ls at hl ⊢
  have hl : lv_has ls 4 [(0, .ref (mh G)), (1, .int (nI n)), (2, .int x)] := hl
  obtain ⟨H, hHe⟩ : ∃ H : Heap, H = s.heap := ⟨_, rfl⟩
  rw [← hHe] at hP
  have hS : va_S (mA G s.heap.size) s.heap H [] := by rw [hHe]; exact va_S.rf
  refine W.heq hHe ?_
  refine lv_iconst (v := 0) hx hb dX8_placeOf_0 (by decide) ?_
  refine lv_istore_n (lv' := [(3, .int 0), (0, .ref (mh G)), (1, .int (nI n)), (2, .int x)]) hx hb dX8_placeOf_1 rfl hl (by decide) rfl (fun ls hl => ?_)
  refine w_loop (fun j H locs k sl g => ∃ (i : Nat) (ls : Array Slot), i + j = m9 ∧ (∀ q, q < i → F 5 (6 * n + q) ≠ x) ∧ k = 0 ∧ sl = 0 ∧ mP G o F H ∧ va_S (mA G s.heap.size) s.heap H locs ∧ lv_has ls 4 [(3, .int (nI i)), (0, .ref (mh G)), (1, .int (nI n)), (2, .int x)] ∧ g = F0 m 2 ls []) ?_ ?_ m9 _ _ _ _ _ ⟨0, ls, by omega, fun q hq => absurd hq (by omega), rfl, rfl, hP, hS, lv_sub hl [0, 1, 2, 3] rfl, rfl⟩
  · intro H locs k sl g hI
    obtain ⟨i, ls, hp0, hp1, rfl, rfl, hP, hS, hl, rfl⟩ := hI
    refine lv_iload_n hx hb dX8_placeOf_2 rfl (lv_at hl 0 rfl) ?_
    refine lv_aload_n hx hb dX8_placeOf_3 rfl (lv_at hl 1 rfl) ?_
    refine m_get (v := .ref (md G 3)) hx hb htu wu_in hown hK hP 3 (by decide) (htu _ U_4) rfl rfl dX8_placeOf_4 ?_
    refine lv_iload_n hx hb dX8_placeOf_7 rfl (lv_at hl 2 rfl) ?_
    refine m_ald (j := n) (v := nI m9) hx hb hK hP 3 3 rfl (by omega) (by decide) h3 dX8_placeOf_8 ?_
    refine lv_icmp_ge (tgt := 35) hx hb dX8_placeOf_9 (by decide) (fun c_1 => ?_) (fun c_1 => absurd (nI_le (by omega) (by omega)) c_1)
    refine lv_bipush (v := (-9)) hx hb dX8_placeOf_35 (by decide) ?_
    exact m_iret (v := (-9)) hx hb hr hK hP hS ⟨rfl, Or.inl ⟨rfl, fun i hi => hp1 i (by omega)⟩⟩ dX8_placeOf_37 hlocks
  · intro j ih9 H locs k sl g hI
    obtain ⟨i, ls, hp0, hp1, rfl, rfl, hP, hS, hl, rfl⟩ := hI
    have ni : i < m9 := by omega
    refine lv_iload_n hx hb dX8_placeOf_2 rfl (lv_at hl 0 rfl) ?_
    refine lv_aload_n hx hb dX8_placeOf_3 rfl (lv_at hl 1 rfl) ?_
    refine m_get (v := .ref (md G 3)) hx hb htu wu_in hown hK hP 3 (by decide) (htu _ U_4) rfl rfl dX8_placeOf_4 ?_
    refine lv_iload_n hx hb dX8_placeOf_7 rfl (lv_at hl 2 rfl) ?_
    refine m_ald (j := n) (v := nI m9) hx hb hK hP 3 3 rfl (by omega) (by decide) h3 dX8_placeOf_8 ?_
    refine lv_icmp_ge (tgt := 35) hx hb dX8_placeOf_9 (by decide) (fun c_2 => absurd c_2 (nI_ge ni (by omega))) (fun c_2 => ?_)
    refine lv_aload_n hx hb dX8_placeOf_12 rfl (lv_at hl 1 rfl) ?_
    refine m_get (v := .ref (md G 5)) hx hb htu wu_in hown hK hP 5 (by decide) (htu _ U_7) rfl rfl dX8_placeOf_13 ?_
    refine lv_bipush (v := 6) hx hb dX8_placeOf_16 (by decide) ?_
    refine lv_iload_n hx hb dX8_placeOf_18 rfl (lv_at hl 2 rfl) ?_
    refine lv_imul hx hb dX8_placeOf_19 ?_
    refine m_top (y := nI (6 * n)) (pk_mul 6 n) ?_
    refine lv_iload_n hx hb dX8_placeOf_20 rfl (lv_at hl 0 rfl) ?_
    refine lv_iadd hx hb dX8_placeOf_21 ?_
    refine m_top (y := nI (6 * n + i)) (nI_add (6 * n) i) ?_
    refine m_ald (j := 6 * n + i) (v := F 5 (6 * n + i)) hx hb hK hP 5 5 rfl (by omega) (by decide) rfl dX8_placeOf_22 ?_
    refine lv_iload_n hx hb dX8_placeOf_23 rfl (lv_at hl 3 rfl) ?_
    refine lv_icmp_ne (tgt := 29) hx hb dX8_placeOf_24 (by decide) (fun c_3 => ?_) (fun c_3 => ?_)
    · skip
      refine lv_iinc (v := nI (i + 1)) (lv' := [(3, .int (nI (i + 1))), (0, .ref (mh G)), (1, .int (nI n)), (2, .int x)]) hx hb dX8_placeOf_29 hl (k := 0) rfl (nI_1 i) (by decide) rfl (fun ls hl => ?_)
      refine lv_goto (tgt := 2) hx hb dX8_placeOf_32 (by decide) ?_
      exact ih9 _ _ _ _ _ ⟨i + 1, ls, by omega, fun q hq => by rcases Nat.lt_or_ge q i with h9 | h9; exact hp1 q h9; rw [show q = i by omega]; exact c_3, rfl, rfl, hP, hS, lv_sub hl [0, 1, 2, 3] rfl, rfl⟩
    · skip
      refine lv_iload_n hx hb dX8_placeOf_27 rfl (lv_at hl 0 rfl) ?_
      exact m_iret (v := nI i) hx hb hr hK hP hS ⟨rfl, Or.inr ⟨i, ni, rfl, c_3, fun j hj => hp1 j hj⟩⟩ dX8_placeOf_28 hlocks

