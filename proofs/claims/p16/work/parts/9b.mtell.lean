theorem dX8_out_0 : decode cX8_out 0 = .ok (.aload_n 0, 1) := by decide +kernel
theorem dX8_out_1 : decode cX8_out 1 = .ok (.getfield 298, 3) := by decide +kernel
theorem dX8_out_4 : decode cX8_out 4 = .ok (.aload_n 0, 1) := by decide +kernel
theorem dX8_out_5 : decode cX8_out 5 = .ok (.getfield 301, 3) := by decide +kernel
theorem dX8_out_8 : decode cX8_out 8 = .ok (.if_icmp .ge 24, 3) := by decide +kernel
theorem dX8_out_32 : decode cX8_out 32 = .ok (.return_, 1) := by decide +kernel
theorem dX8_out_11 : decode cX8_out 11 = .ok (.aload_n 0, 1) := by decide +kernel
theorem dX8_out_12 : decode cX8_out 12 = .ok (.getfield 92, 3) := by decide +kernel
theorem dX8_out_15 : decode cX8_out 15 = .ok (.aload_n 0, 1) := by decide +kernel
theorem dX8_out_16 : decode cX8_out 16 = .ok (.getfield 298, 3) := by decide +kernel
theorem dX8_out_19 : decode cX8_out 19 = .ok (.iload_n 1, 1) := by decide +kernel
theorem dX8_out_20 : decode cX8_out 20 = .ok (.i2b, 1) := by decide +kernel
theorem dX8_out_21 : decode cX8_out 21 = .ok (.bastore, 1) := by decide +kernel
theorem dX8_out_22 : decode cX8_out 22 = .ok (.aload_n 0, 1) := by decide +kernel
theorem dX8_out_23 : decode cX8_out 23 = .ok (.dup, 1) := by decide +kernel
theorem dX8_out_24 : decode cX8_out 24 = .ok (.getfield 298, 3) := by decide +kernel
theorem dX8_out_27 : decode cX8_out 27 = .ok (.iconst 1, 1) := by decide +kernel
theorem dX8_out_28 : decode cX8_out 28 = .ok (.iadd, 1) := by decide +kernel
theorem dX8_out_29 : decode cX8_out 29 = .ok (.putfield 298, 3) := by decide +kernel
set_option maxHeartbeats 4000000 in
set_option maxRecDepth 100000 in
/-- out: one sign more, if there is room -/
theorem m_out (l : Launch) (G : mG) (hDD : mDD G) (o : Nat → Int32) (F : Nat → Nat → Int32) (bm : Nat) (mo : Nat) (x : Int32) (h47 : o 47 = nI bm) (h48 : o 48 = nI mo) (hmo : mo ≤ 400) (hbm : bm ≤ mo) (sz : Nat) : Met l yX8_out (wU yX8_out cX8_out 2 none) { frames := 0, cells := 0, slots := 0, locals := 0 } (mPc G o F sz [.ref (mh G), .int x]) (mQv G sz (fun u => u = if bm < mo then (upd o 47 (nI (bm + 1)), fput F 46 bm (vp_nar .byte x.toInt8.toInt32)) else (o, F))) 0 0 (mA G sz) := by
  refine Met.ofW (cc := cX8_out) (maxL := 2) (ret := none) (by decide) rfl ?_
  intro p e s m args below meth c s₁ B hml hv
  obtain ⟨rfl, hsz, hP, hK⟩ := hv
  have hx := B.exec
  have hb := B.bytes
  have hr := B.returns
  have htu : ∀ w ∈ WU, w.before _ s = true := fun w h => atoms_spec (ws := (wU yX8_out cX8_out 2 none)) B.pre w (List.mem_cons_of_mem _ h)
  have hown : s.vm.findClass RX8 = some m.cls := findClass_of_methodNamed B.named
  have hlocks := B.notSynchronized
  subst hsz
  have hS : va_S (mA G s.heap.size) s.heap s.heap [] := va_S.rf
  have hl := lv_entry ([.ref (mh G), .int x]) (n := 2) (Nat.le_of_ble_eq_true rfl)
  rw [lg_entry_eq]
  generalize (lg_sl ([.ref (mh G), .int x]) ++ List.replicate (2 - (lg_sl ([.ref (mh G), .int x])).length) Slot.unset).toArray = ls at hl ⊢
  have hl : lv_has ls 2 [(0, .ref (mh G)), (1, .int x)] := hl
  obtain ⟨H, hHe⟩ : ∃ H : Heap, H = s.heap := ⟨_, rfl⟩
  rw [← hHe] at hP
  have hS : va_S (mA G s.heap.size) s.heap H [] := by rw [hHe]; exact va_S.rf
  refine W.heq hHe ?_
  refine lv_aload_n hx hb dX8_out_0 rfl (lv_at hl 0 rfl) ?_
  refine m_get (v := .int (nI bm)) hx hb htu wu_in hown hK hP 47 (by decide) (htu _ U_187) rfl (m_v h47) dX8_out_1 ?_
  refine lv_aload_n hx hb dX8_out_4 rfl (lv_at hl 0 rfl) ?_
  refine m_get (v := .int (nI mo)) hx hb htu wu_in hown hK hP 48 (by decide) (htu _ U_188) rfl (m_v h48) dX8_out_5 ?_
  refine lv_icmp_ge (tgt := 32) hx hb dX8_out_8 (by decide) (fun c_1 => ?_) (fun c_1 => ?_)
  · skip
    have nc_1 : mo ≤ bm := (nI_leI (a := mo) (b := bm) (by omega) (by omega)).mp c_1
    exact m_vret hx hb hr hK hP hS (by rw [if_neg (by omega)]) dX8_out_32 hlocks
  · skip
    have nc_1 : ¬ mo ≤ bm := fun h9 => c_1 ((nI_leI (a := mo) (b := bm) (by omega) (by omega)).mpr h9)
    refine lv_aload_n hx hb dX8_out_11 rfl (lv_at hl 0 rfl) ?_
    refine m_get (v := .ref (md G 46)) hx hb htu wu_in hown hK hP 46 (by decide) (htu _ U_190) rfl rfl dX8_out_12 ?_
    refine lv_aload_n hx hb dX8_out_15 rfl (lv_at hl 0 rfl) ?_
    refine m_get (v := .int (nI bm)) hx hb htu wu_in hown hK hP 47 (by decide) (htu _ U_187) rfl (m_v h47) dX8_out_16 ?_
    refine lv_iload_n hx hb dX8_out_19 rfl (lv_at hl 1 rfl) ?_
    refine lv_i2b (v := (x).toInt8.toInt32) hx hb dX8_out_20 rfl ?_
    refine m_bast (j := bm) (x := (x).toInt8.toInt32) hx hb hK hP hDD hS 28 46 rfl (by omega) (by decide) (mW_a46 _ _ _ _ _) dX8_out_21 (fun H locs hP hS => ?_)
    refine lv_aload_n hx hb dX8_out_22 rfl (lv_at hl 0 rfl) ?_
    refine lv_dup hx hb dX8_out_23 rfl ?_
    refine m_get (v := .int (nI bm)) hx hb htu wu_in hown hK hP 47 (by decide) (htu _ U_187) rfl (m_v h47) dX8_out_24 ?_
    refine lv_iconst (v := 1) hx hb dX8_out_27 (by decide) ?_
    refine lv_iadd hx hb dX8_out_28 ?_
    refine m_top (y := nI (bm + 1)) (nI_add bm 1) ?_
    refine m_put (ty := .int) (x := nI (bm + 1)) hx hb htu wu_in hown hK hP hDD hS 47 (by decide) (htu _ U_187) rfl rfl (by decide +kernel) rfl rfl (mO_s47 _ _ _) dX8_out_29 (fun H locs hP hS => ?_)
    exact m_vret hx hb hr hK hP hS (by rw [if_pos (by omega)]) dX8_out_32 hlocks

