def WI (F : Nat → Nat → Int32) (w : Nat → Bool) : Prop := ∀ a, a < 300 → F 49 a = if w a = true then 1 else 0
theorem WI.to {F F' : Nat → Nat → Int32} {w : Nat → Bool} (h : WI F w) (e : F' 49 = F 49) : WI F' w := fun a ha => by
  rw [e]
  exact h a ha
theorem WI.t {F : Nat → Nat → Int32} {w : Nat → Bool} {a : Nat} (h : WI F w) (ha : a < 300) (c : ¬ F 49 a = 0) : w a = true := by
  rw [h a ha] at c
  by_cases e : w a = true
  · exact e
  · rw [if_neg e] at c
    exact absurd rfl c
theorem WI.f {F : Nat → Nat → Int32} {w : Nat → Bool} {a : Nat} (h : WI F w) (ha : a < 300) (c : F 49 a = 0) : w a = false := by
  rw [h a ha] at c
  by_cases e : w a = true
  · rw [if_pos e] at c
    exact absurd c (by decide)
  · exact Bool.eq_false_iff.mpr e
theorem wor_s {w : Nat → Bool} {a : Nat} : wor w a a = true := by
  unfold wor
  rw [decide_eq_true rfl]
  rfl
theorem wor_n {w : Nat → Bool} {a b : Nat} (h : b ≠ a) : wor w a b = w b := by
  unfold wor
  rw [decide_eq_false h]
  rfl
theorem WI.on {F : Nat → Nat → Int32} {w : Nat → Bool} {a : Nat} (h : WI F w) : WI (fput F 49 a (vp_nar .boolean 1)) (wor w a) := fun b hb => by
  show upd (F 49) a (vp_nar .boolean 1) b = _
  by_cases e : b = a
  · rw [e, upd_s, wor_s, if_pos rfl]
    rfl
  · rw [upd_n e, wor_n e]
    exact h b hb
theorem WI.off {F : Nat → Nat → Int32} {w : Nat → Bool} {a : Nat} (h : WI F (wor w a)) (hw : w a = false) : WI (fput F 49 a (vp_nar .boolean 0)) w := fun b hb => by
  show upd (F 49) a (vp_nar .boolean 0) b = _
  by_cases e : b = a
  · rw [e, upd_s, hw, if_neg (by decide)]
    rfl
  · rw [upd_n e, h b hb, wor_n e]
def tvx (z : aS) (w : Nat → Bool) (v y : Nat) (L : List Int32) : List Int32 := if (row z y (z.1 6 v)).length = 0 ∨ w (2 * v + y) = true then tln v L else lput 400 (tlb (fun p L => tl z 401 (wor w (2 * v + y)) p y L) (row z y (z.1 6 v)) (row z y (z.1 6 v)).length 0 (tln v (lput 400 L (b8 (if y = 0 then 124 else 38))))) (b8 46)
theorem tl_e3 {z : aS} {w : Nat → Bool} {t y : Nat} {L : List Int32} (hf : L.length < 400) (h : srt z t = 3) (hv : z.1 6 (one z t) = t) : tl z 401 w t y L = tvx z w (one z t) y L := by
  unfold tvx
  rw [hv]
  by_cases h3 : (row z y t).length = 0 ∨ w (2 * one z t + y) = true
  · rw [if_pos h3]
    exact tl_e3a hf h h3
  · rw [if_neg h3]
    exact tl_e3b hf h h3
theorem tvx_a {z : aS} {w : Nat → Bool} {v y : Nat} {L : List Int32} (h : (row z y (z.1 6 v)).length = 0 ∨ w (2 * v + y) = true) : tvx z w v y L = tln v L := if_pos h
theorem tvx_b {z : aS} {w : Nat → Bool} {v y : Nat} {L : List Int32} (h : ¬ ((row z y (z.1 6 v)).length = 0 ∨ w (2 * v + y) = true)) : tvx z w v y L = lput 400 (tlb (fun p L => tl z 401 (wor w (2 * v + y)) p y L) (row z y (z.1 6 v)) (row z y (z.1 6 v)).length 0 (tln v (lput 400 L (b8 (if y = 0 then 124 else 38))))) (b8 46) := if_neg h

def xTellAt (d : Nat) : Prop := ∀ (l : Launch) (G : mG) (hDD : mDD G) (o : Nat → Int32) (F : Nat → Nat → Int32) (z : aS) (ix : Nat → Nat → Nat) (L9 : List Int32) (w9 : Nat → Bool) (t : Nat) (way : Nat) (hR : MR z ix o F) (hG : MG9 o F L9) (hcap : L9.length ≤ 400) (h48 : o 48 = nI 400) (hWI : WI F w9) (hd : 400 ≤ L9.length + d) (ht : t < nT z) (hw2 : way < 2) (sz : Nat), Met l yX8_tell (wU yX8_tell cX8_tell 4 none) { frames := 2 * d + 2, cells := 0, slots := 0, locals := 50 * d + 100 } (mPc G o F sz [.ref (mh G), .int (nI t), .int (nI way)]) (mQv G sz (fun u => MG9 u.1 u.2 (tl z 401 w9 t way L9) ∧ Kq LTl o F u ∧ WI u.2 w9)) 0 0 (mA G sz)

def xTellVAt (d : Nat) : Prop := ∀ (l : Launch) (G : mG) (hDD : mDD G) (o : Nat → Int32) (F : Nat → Nat → Int32) (z : aS) (ix : Nat → Nat → Nat) (L9 : List Int32) (w9 : Nat → Bool) (v : Nat) (way : Nat) (hR : MR z ix o F) (hG : MG9 o F L9) (hcap : L9.length ≤ 400) (h48 : o 48 = nI 400) (hWI : WI F w9) (hnf : L9.length < 400) (hd : 400 ≤ L9.length + (d + 1)) (hv9 : v < nV z) (hw2 : way < 2) (sz : Nat), Met l yX8_tellVariable (wU yX8_tellVariable cX8_tellVariable 7 none) { frames := 2 * (d + 1) + 1, cells := 0, slots := 0, locals := 50 * (d + 1) + 74 } (mPc G o F sz [.ref (mh G), .int (nI v), .int (nI way)]) (mQv G sz (fun u => MG9 u.1 u.2 (tvx z w9 v way L9) ∧ Kq LTl o F u ∧ WI u.2 w9)) 0 0 (mA G sz)

set_option maxHeartbeats 4000000 in
set_option maxRecDepth 100000 in
/-- tell, no room -/
theorem xt_tell_0 (l : Launch) (G : mG) (hDD : mDD G) (o : Nat → Int32) (F : Nat → Nat → Int32) (z : aS) (ix : Nat → Nat → Nat) (L9 : List Int32) (w9 : Nat → Bool) (t : Nat) (way : Nat) (hR : MR z ix o F) (hG : MG9 o F L9) (hcap : L9.length ≤ 400) (h48 : o 48 = nI 400) (hWI : WI F w9) (hd : 400 ≤ L9.length + 0) (ht : t < nT z) (hw2 : way < 2) (sz : Nat) : Met l yX8_tell (wU yX8_tell cX8_tell 4 none) { frames := 2 * 0 + 2, cells := 0, slots := 0, locals := 50 * 0 + 100 } (mPc G o F sz [.ref (mh G), .int (nI t), .int (nI way)]) (mQv G sz (fun u => MG9 u.1 u.2 (tl z 401 w9 t way L9) ∧ Kq LTl o F u ∧ WI u.2 w9)) 0 0 (mA G sz) := by
  refine Met.ofW (cc := cX8_tell) (maxL := 4) (ret := none) (by decide) rfl ?_
  intro p e s m args below meth c s₁ B hml hv
  obtain ⟨rfl, hsz, hP, hK⟩ := hv
  have hx := B.exec
  have hb := B.bytes
  have hr := B.returns
  have htu : ∀ w ∈ WU, w.before _ s = true := fun w h => atoms_spec (ws := (wU yX8_tell cX8_tell 4 none)) B.pre w (List.mem_cons_of_mem _ h)
  have hown : s.vm.findClass RX8 = some m.cls := findClass_of_methodNamed B.named
  have hlocks := B.notSynchronized
  subst hsz
  have hS : va_S (mA G s.heap.size) s.heap s.heap [] := va_S.rf
  have hl := lv_entry ([.ref (mh G), .int (nI t), .int (nI way)]) (n := 4) (Nat.le_of_ble_eq_true rfl)
  rw [lg_entry_eq]
  generalize (lg_sl ([.ref (mh G), .int (nI t), .int (nI way)]) ++ List.replicate (4 - (lg_sl ([.ref (mh G), .int (nI t), .int (nI way)])).length) Slot.unset).toArray = ls at hl ⊢
  have hl : lv_has ls 4 [(0, .ref (mh G)), (1, .int (nI t)), (2, .int (nI way))] := hl
  obtain ⟨H, hHe⟩ : ∃ H : Heap, H = s.heap := ⟨_, rfl⟩
  rw [← hHe] at hP
  have hS : va_S (mA G s.heap.size) s.heap H [] := by rw [hHe]; exact va_S.rf
  refine W.heq hHe ?_
  refine lv_aload_n hx hb dX8_tell_0 rfl (lv_at hl 0 rfl) ?_
  refine m_get (v := .int (nI ((L9.length)))) hx hb htu wu_in hown hK hP 47 (by decide) (htu _ U_187) rfl (m_v hG.1) dX8_tell_1 ?_
  refine lv_aload_n hx hb dX8_tell_4 rfl (lv_at hl 0 rfl) ?_
  refine m_get (v := .int 400) hx hb htu wu_in hown hK hP 48 (by decide) (htu _ U_188) rfl (m_v h48) dX8_tell_5 ?_
  refine lv_icmp_ne (tgt := 12) hx hb dX8_tell_8 (by decide) (fun c_1 => absurd (congrArg nI (show L9.length = 400 by omega)) c_1) (fun c_1 => ?_)
  exact m_vret hx hb hr hK hP hS ⟨by rw [tl_full (by omega)]; exact hG, Kq.rf, hWI⟩ dX8_tell_11 hlocks

set_option maxHeartbeats 4000000 in
set_option maxRecDepth 100000 in
/-- tellVariable -/
theorem xt_tellV_s (l : Launch) (G : mG) (hDD : mDD G) (o : Nat → Int32) (F : Nat → Nat → Int32) (d : Nat) (z : aS) (ix : Nat → Nat → Nat) (L9 : List Int32) (w9 : Nat → Bool) (v : Nat) (way : Nat) (ih : xTellAt d) (hR : MR z ix o F) (hG : MG9 o F L9) (hcap : L9.length ≤ 400) (h48 : o 48 = nI 400) (hWI : WI F w9) (hnf : L9.length < 400) (hd : 400 ≤ L9.length + (d + 1)) (hv9 : v < nV z) (hw2 : way < 2) (sz : Nat) : Met l yX8_tellVariable (wU yX8_tellVariable cX8_tellVariable 7 none) { frames := 2 * (d + 1) + 1, cells := 0, slots := 0, locals := 50 * (d + 1) + 74 } (mPc G o F sz [.ref (mh G), .int (nI v), .int (nI way)]) (mQv G sz (fun u => MG9 u.1 u.2 (tvx z w9 v way L9) ∧ Kq LTl o F u ∧ WI u.2 w9)) 0 0 (mA G sz) := by
  refine Met.ofW (cc := cX8_tellVariable) (maxL := 7) (ret := none) (by decide) rfl ?_
  intro p e s m args below meth c s₁ B hml hv
  obtain ⟨rfl, hsz, hP, hK⟩ := hv
  have hx := B.exec
  have hb := B.bytes
  have hr := B.returns
  have htu : ∀ w ∈ WU, w.before _ s = true := fun w h => atoms_spec (ws := (wU yX8_tellVariable cX8_tellVariable 7 none)) B.pre w (List.mem_cons_of_mem _ h)
  have hown : s.vm.findClass RX8 = some m.cls := findClass_of_methodNamed B.named
  have hlocks := B.notSynchronized
  subst hsz
  have hS : va_S (mA G s.heap.size) s.heap s.heap [] := va_S.rf
  have hl := lv_entry ([.ref (mh G), .int (nI v), .int (nI way)]) (n := 7) (Nat.le_of_ble_eq_true rfl)
  rw [lg_entry_eq]
  generalize (lg_sl ([.ref (mh G), .int (nI v), .int (nI way)]) ++ List.replicate (7 - (lg_sl ([.ref (mh G), .int (nI v), .int (nI way)])).length) Slot.unset).toArray = ls at hl ⊢
  have hl : lv_has ls 7 [(0, .ref (mh G)), (1, .int (nI v)), (2, .int (nI way))] := hl
  obtain ⟨H, hHe⟩ : ∃ H : Heap, H = s.heap := ⟨_, rfl⟩
  rw [← hHe] at hP
  have hS : va_S (mA G s.heap.size) s.heap H [] := by rw [hHe]; exact va_S.rf
  refine W.heq hHe ?_
  obtain ⟨b1, b2, b3, b4, b5, b6, b7, b8_⟩ := hR.2.1
  obtain ⟨w1_, w2_, w3_, w4_, w5_⟩ := hR.2.2.2.2.2.2.1 v hv9 way hw2
  refine lv_iconst (v := 2) hx hb dX8_tellVariable_0 (by decide) ?_
  refine lv_iload_n hx hb dX8_tellVariable_1 rfl (lv_at hl 1 rfl) ?_
  refine lv_imul hx hb dX8_tellVariable_2 ?_
  refine m_top (y := nI (2 * v)) (pk_mul 2 v) ?_
  refine lv_iload_n hx hb dX8_tellVariable_3 rfl (lv_at hl 2 rfl) ?_
  refine lv_iadd hx hb dX8_tellVariable_4 ?_
  refine m_top (y := nI (2 * v + way)) (nI_add (2 * v) way) ?_
  refine lv_istore_n (lv' := [(3, .int (nI (2 * v + way))), (0, .ref (mh G)), (1, .int (nI v)), (2, .int (nI way))]) hx hb dX8_tellVariable_5 rfl hl (by decide) rfl (fun ls hl => ?_)
  refine lv_aload_n hx hb dX8_tellVariable_6 rfl (lv_at hl 1 rfl) ?_
  refine m_get (v := .ref (md G 49)) hx hb htu wu_in hown hK hP 49 (by decide) (htu _ U_189) rfl rfl dX8_tellVariable_7 ?_
  refine lv_iload_n hx hb dX8_tellVariable_10 rfl (lv_at hl 0 rfl) ?_
  refine m_zald (j := 2 * v + way) (v := F 49 (2 * v + way)) hx hb hK hP 29 49 rfl (by omega) (by decide) rfl dX8_tellVariable_11 ?_
  refine lv_if_ne (tgt := 24) hx hb dX8_tellVariable_12 (by decide) (fun c_1 => ?_) (fun c_1 => ?_)
  · skip
    have hwt := hWI.t (a := 2 * v + way) (by omega) c_1
    refine lv_iconst (v := 1) hx hb dX8_tellVariable_24 (by decide) ?_
    refine lv_goto (tgt := 29) hx hb dX8_tellVariable_25 (by decide) ?_
    refine lv_istore (lv' := [(4, .int 1), (3, .int (nI (2 * v + way))), (0, .ref (mh G)), (1, .int (nI v)), (2, .int (nI way))]) hx hb dX8_tellVariable_29 hl (by decide) rfl (fun ls hl => ?_)
    refine lv_iload hx hb dX8_tellVariable_31 (lv_at hl 0 rfl) ?_
    refine lv_if_ne (tgt := 51) hx hb dX8_tellVariable_33 (by decide) (fun c_2 => ?_) (fun c_2 => absurd c_2 (by decide))
    refine lv_aload_n hx hb dX8_tellVariable_51 rfl (lv_at hl 2 rfl) ?_
    refine lv_bipush (v := 39) hx hb dX8_tellVariable_52 (by decide) ?_
    refine m_cv (m_runV (As := [.int 39]) (rest := []) ⟨hx, hb, hml, hown, htu⟩ (m_out l G hDD o F L9.length 400 39 hG.1 ((((Kq.rf (L := LTl) (o := o) (F := F)) 48 (by decide)).1.trans h48)) ((by decide)) hcap H.size) (cwV 1 htu gU_X8_out rfl rfl rfl (by decide +kernel) ⟨show 0 + 1 ≤ 2 * (d + 1) + 1 by omega, show 8 + (2 + 11) + 0 ≤ 50 * (d + 1) + 74 by omega⟩) hP hK rfl hl.1 rfl (lv_room (Nat.le_of_ble_eq_true rfl)) dX8_tellVariable_54) hS (fun o_4 F_5 H locs hw_6 hP hS => ?_)
    try dsimp only at hw_6
    obtain ⟨L_7g, L_7q0⟩ := MG9.out4 hG hw_6
    obtain ⟨L_7, L_7e⟩ : ∃ L', L' = lput 400 L9 (b8 39) := ⟨_, rfl⟩
    rw [← L_7e] at L_7g
    have L_7c : L_7.length ≤ 400 := by rw [L_7e]; exact (lp_len hcap).1
    have L_7l : L9.length + 1 ≤ L_7.length := by rw [L_7e]; exact Nat.le_of_eq (lpq1 hnf).symm
    have L_7q : Kq LTl o F (o_4, F_5) := (Kq.rf (L := LTl) (o := o) (F := F)).tr (L_7q0.mono (by decide))
    have L_7w : WI F_5 w9 := hWI.to (L_7q0 49 (by decide)).2
    refine lv_aload_n hx hb dX8_tellVariable_57 rfl (lv_at hl 2 rfl) ?_
    refine lv_iload_n hx hb dX8_tellVariable_58 rfl (lv_at hl 3 rfl) ?_
    refine m_cv (m_runV (As := [.int (nI v)]) (rest := []) ⟨hx, hb, hml, hown, htu⟩ (xt_outNumber l G hDD o_4 F_5 L_7 (nI v) L_7g L_7c (((L_7q 48 (by decide)).1.trans h48)) H.size) (cwV 1 htu gU_X8_outNumber rfl rfl rfl (by decide +kernel) ⟨show 1 + 1 ≤ 2 * (d + 1) + 1 by omega, show 8 + (6 + 11) + 21 ≤ 50 * (d + 1) + 74 by omega⟩) hP hK rfl hl.1 rfl (lv_room (Nat.le_of_ble_eq_true rfl)) dX8_tellVariable_59) hS (fun o_9 F_10 H locs hw_11 hP hS => ?_)
    try dsimp only at hw_11
    obtain ⟨L_12g, L_12q0⟩ := hw_11
    obtain ⟨L_12, L_12e⟩ : ∃ L', L' = lputs 400 L_7 (figs (nI v)) := ⟨_, rfl⟩
    rw [← L_12e] at L_12g
    have L_12c : L_12.length ≤ 400 := by rw [L_12e]; exact (lputs_len _ _ L_7c).1
    have L_12l : L9.length + 1 ≤ L_12.length := by rw [L_12e]; exact Nat.le_trans L_7l (lputs_len _ _ L_7c).2
    have L_12q : Kq LTl o F (o_9, F_10) := L_7q.tr (L_12q0.mono (by decide))
    have L_12w : WI F_10 w9 := L_7w.to (L_12q0 49 (by decide)).2
    refine lv_iload hx hb dX8_tellVariable_62 (lv_at hl 0 rfl) ?_
    refine lv_if_ne (tgt := 136) hx hb dX8_tellVariable_64 (by decide) (fun c_13 => ?_) (fun c_13 => absurd c_13 (by decide))
    exact m_vret hx hb hr hK hP hS ⟨by rw [tvx_a (Or.inr hwt)]; unfold tln; rw [← L_7e, ← L_12e]; exact L_12g, L_12q, L_12w⟩ dX8_tellVariable_136 hlocks
  · skip
    have hwf := hWI.f (a := 2 * v + way) (by omega) c_1
    refine lv_aload_n hx hb dX8_tellVariable_15 rfl (lv_at hl 1 rfl) ?_
    refine m_get (v := .ref (md G 21)) hx hb htu wu_in hown hK hP 21 (by decide) (htu _ U_116) rfl rfl dX8_tellVariable_16 ?_
    refine lv_iload_n hx hb dX8_tellVariable_19 rfl (lv_at hl 0 rfl) ?_
    refine m_ald (j := 2 * v + way) (v := nI ((row z way (z.1 6 v)).length)) hx hb hK hP 18 21 rfl (by omega) (by decide) w1_ dX8_tellVariable_20 ?_
    refine lv_if_ne (tgt := 28) hx hb dX8_tellVariable_21 (by decide) (fun c_14 => ?_) (fun c_14 => ?_)
    · skip
      have nc_14 : ¬ (row z way (z.1 6 v)).length = 0 := fun h9 => c_14 ((nI_eq (a := (row z way (z.1 6 v)).length) (b := 0) (by omega) (by omega)).mpr h9)
      refine lv_iconst (v := 0) hx hb dX8_tellVariable_28 (by decide) ?_
      refine lv_istore (lv' := [(4, .int 0), (3, .int (nI (2 * v + way))), (0, .ref (mh G)), (1, .int (nI v)), (2, .int (nI way))]) hx hb dX8_tellVariable_29 hl (by decide) rfl (fun ls hl => ?_)
      refine lv_iload hx hb dX8_tellVariable_31 (lv_at hl 0 rfl) ?_
      refine lv_if_ne (tgt := 51) hx hb dX8_tellVariable_33 (by decide) (fun c_15 => absurd (by decide) c_15) (fun c_15 => ?_)
      refine lv_aload_n hx hb dX8_tellVariable_36 rfl (lv_at hl 2 rfl) ?_
      refine lv_iload_n hx hb dX8_tellVariable_37 rfl (lv_at hl 4 rfl) ?_
      refine lv_if_ne (tgt := 46) hx hb dX8_tellVariable_38 (by decide) (fun c_16 => ?_) (fun c_16 => ?_)
      · skip
        have nc_16 : ¬ way = 0 := fun h9 => c_16 ((nI_eq (a := way) (b := 0) (by omega) (by omega)).mpr h9)
        refine lv_bipush (v := 38) hx hb dX8_tellVariable_46 (by decide) ?_
        refine m_cv (m_runV (As := [.int 38]) (rest := []) ⟨hx, hb, hml, hown, htu⟩ (m_out l G hDD o F L9.length 400 38 hG.1 ((((Kq.rf (L := LTl) (o := o) (F := F)) 48 (by decide)).1.trans h48)) ((by decide)) hcap H.size) (cwV 1 htu gU_X8_out rfl rfl rfl (by decide +kernel) ⟨show 0 + 1 ≤ 2 * (d + 1) + 1 by omega, show 8 + (2 + 11) + 0 ≤ 50 * (d + 1) + 74 by omega⟩) hP hK rfl hl.1 rfl (lv_room (Nat.le_of_ble_eq_true rfl)) dX8_tellVariable_48) hS (fun o_18 F_19 H locs hw_20 hP hS => ?_)
        try dsimp only at hw_20
        obtain ⟨L_21g, L_21q0⟩ := MG9.out4 hG hw_20
        obtain ⟨L_21, L_21e⟩ : ∃ L', L' = lput 400 L9 (b8 38) := ⟨_, rfl⟩
        rw [← L_21e] at L_21g
        have L_21c : L_21.length ≤ 400 := by rw [L_21e]; exact (lp_len hcap).1
        have L_21l : L9.length + 1 ≤ L_21.length := by rw [L_21e]; exact Nat.le_of_eq (lpq1 hnf).symm
        have L_21q : Kq LTl o F (o_18, F_19) := (Kq.rf (L := LTl) (o := o) (F := F)).tr (L_21q0.mono (by decide))
        have L_21w : WI F_19 w9 := hWI.to (L_21q0 49 (by decide)).2
        refine lv_aload_n hx hb dX8_tellVariable_51 rfl (lv_at hl 2 rfl) ?_
        refine lv_bipush (v := 39) hx hb dX8_tellVariable_52 (by decide) ?_
        refine m_cv (m_runV (As := [.int 39]) (rest := []) ⟨hx, hb, hml, hown, htu⟩ (m_out l G hDD o_18 F_19 L_21.length 400 39 L_21g.1 (((L_21q 48 (by decide)).1.trans h48)) ((by decide)) L_21c H.size) (cwV 1 htu gU_X8_out rfl rfl rfl (by decide +kernel) ⟨show 0 + 1 ≤ 2 * (d + 1) + 1 by omega, show 8 + (2 + 11) + 0 ≤ 50 * (d + 1) + 74 by omega⟩) hP hK rfl hl.1 rfl (lv_room (Nat.le_of_ble_eq_true rfl)) dX8_tellVariable_54) hS (fun o_23 F_24 H locs hw_25 hP hS => ?_)
        try dsimp only at hw_25
        obtain ⟨L_26g, L_26q0⟩ := MG9.out4 L_21g hw_25
        obtain ⟨L_26, L_26e⟩ : ∃ L', L' = lput 400 L_21 (b8 39) := ⟨_, rfl⟩
        rw [← L_26e] at L_26g
        have L_26c : L_26.length ≤ 400 := by rw [L_26e]; exact (lp_len L_21c).1
        have L_26l : L9.length + 1 ≤ L_26.length := by rw [L_26e]; exact Nat.le_trans L_21l (lp_len L_21c).2
        have L_26q : Kq LTl o F (o_23, F_24) := L_21q.tr (L_26q0.mono (by decide))
        have L_26w : WI F_24 w9 := L_21w.to (L_26q0 49 (by decide)).2
        refine lv_aload_n hx hb dX8_tellVariable_57 rfl (lv_at hl 2 rfl) ?_
        refine lv_iload_n hx hb dX8_tellVariable_58 rfl (lv_at hl 3 rfl) ?_
        refine m_cv (m_runV (As := [.int (nI v)]) (rest := []) ⟨hx, hb, hml, hown, htu⟩ (xt_outNumber l G hDD o_23 F_24 L_26 (nI v) L_26g L_26c (((L_26q 48 (by decide)).1.trans h48)) H.size) (cwV 1 htu gU_X8_outNumber rfl rfl rfl (by decide +kernel) ⟨show 1 + 1 ≤ 2 * (d + 1) + 1 by omega, show 8 + (6 + 11) + 21 ≤ 50 * (d + 1) + 74 by omega⟩) hP hK rfl hl.1 rfl (lv_room (Nat.le_of_ble_eq_true rfl)) dX8_tellVariable_59) hS (fun o_28 F_29 H locs hw_30 hP hS => ?_)
        try dsimp only at hw_30
        obtain ⟨L_31g, L_31q0⟩ := hw_30
        obtain ⟨L_31, L_31e⟩ : ∃ L', L' = lputs 400 L_26 (figs (nI v)) := ⟨_, rfl⟩
        rw [← L_31e] at L_31g
        have L_31c : L_31.length ≤ 400 := by rw [L_31e]; exact (lputs_len _ _ L_26c).1
        have L_31l : L9.length + 1 ≤ L_31.length := by rw [L_31e]; exact Nat.le_trans L_26l (lputs_len _ _ L_26c).2
        have L_31q : Kq LTl o F (o_28, F_29) := L_26q.tr (L_31q0.mono (by decide))
        have L_31w : WI F_29 w9 := L_26w.to (L_31q0 49 (by decide)).2
        refine lv_iload hx hb dX8_tellVariable_62 (lv_at hl 0 rfl) ?_
        refine lv_if_ne (tgt := 136) hx hb dX8_tellVariable_64 (by decide) (fun c_32 => absurd (by decide) c_32) (fun c_32 => ?_)
        refine lv_aload_n hx hb dX8_tellVariable_67 rfl (lv_at hl 2 rfl) ?_
        refine m_get (v := .ref (md G 49)) hx hb htu wu_in hown hK hP 49 (by decide) (htu _ U_189) rfl rfl dX8_tellVariable_68 ?_
        refine lv_iload_n hx hb dX8_tellVariable_71 rfl (lv_at hl 1 rfl) ?_
        refine lv_iconst (v := 1) hx hb dX8_tellVariable_72 (by decide) ?_
        refine m_zast (j := 2 * v + way) (x := 1) hx hb hK hP hDD hS 29 49 rfl (by omega) (by decide) (mW_a49 _ _ _ _ _) dX8_tellVariable_73 (fun H locs hP hS => ?_)
        refine lv_aload_n hx hb dX8_tellVariable_74 rfl (lv_at hl 2 rfl) ?_
        refine m_get (v := .ref (md G 19)) hx hb htu wu_in hown hK hP 19 (by decide) (htu _ U_117) rfl rfl dX8_tellVariable_75 ?_
        refine lv_iload_n hx hb dX8_tellVariable_78 rfl (lv_at hl 1 rfl) ?_
        have hRa := hR.tell L_31q
        obtain ⟨a1_, a2_, a3_, a4_, a5_⟩ := hRa.2.2.2.2.2.2.1 v hv9 way hw2
        have len9 : 0 < (row z way (z.1 6 v)).length := Nat.pos_of_ne_zero nc_14
        have h3n : ¬ ((row z way (z.1 6 v)).length = 0 ∨ w9 (2 * v + way) = true) := fun h => h.elim nc_14 (fun h2 => by rw [hwf] at h2; cases h2)
        obtain ⟨R_33, R_33e⟩ : ∃ R, R = tlb (fun p L => tl z 401 (wor w9 (2 * v + way)) p way L) (row z way (z.1 6 v)) (row z way (z.1 6 v)).length 0 L_31 := ⟨_, rfl⟩
        refine m_ald (j := 2 * v + way) (v := nI (ix (2 * v + way) 0)) hx hb hK hP 16 19 rfl (by omega) (by decide) (by have := (a3_ len9).1; exact this) dX8_tellVariable_79 ?_
        refine lv_istore (lv' := [(5, .int (nI (ix (2 * v + way) 0))), (4, .int 0), (3, .int (nI (2 * v + way))), (0, .ref (mh G)), (1, .int (nI v)), (2, .int (nI way))]) hx hb dX8_tellVariable_80 hl (by decide) rfl (fun ls hl => ?_)
        refine lv_iconst (v := 0) hx hb dX8_tellVariable_82 (by decide) ?_
        refine lv_istore (lv' := [(6, .int 0), (5, .int (nI (ix (2 * v + way) 0))), (4, .int 0), (3, .int (nI (2 * v + way))), (0, .ref (mh G)), (1, .int (nI v)), (2, .int (nI way))]) hx hb dX8_tellVariable_83 hl (by decide) rfl (fun ls hl => ?_)
        refine w_loop (fun j H locs k sl g => ∃ (o1 : Nat → Int32) (F1 : Nat → Nat → Int32) (L1 : List Int32) (kv : Int32) (i : Nat) (ls : Array Slot), i + j = (row z way (z.1 6 v)).length ∧ (i < (row z way (z.1 6 v)).length → kv = nI (ix (2 * v + way) i)) ∧ MG9 o1 F1 L1 ∧ L1.length ≤ 400 ∧ L9.length + 1 ≤ L1.length ∧ Kq LTl o F (o1, F1) ∧ WI F1 (wor w9 (2 * v + way)) ∧ tlb (fun p L => tl z 401 (wor w9 (2 * v + way)) p way L) (row z way (z.1 6 v)) j i L1 = R_33 ∧ k = 0 ∧ sl = 0 ∧ mP G o1 F1 H ∧ va_S (mA G s.heap.size) s.heap H locs ∧ lv_has ls 7 [(0, .ref (mh G)), (1, .int (nI v)), (2, .int (nI way)), (3, .int (nI (2 * v + way))), (4, .int 0), (5, .int kv), (6, .int (nI i))] ∧ g = F0 m 85 ls []) ?_ ?_ ((row z way (z.1 6 v)).length) _ _ _ _ _ ⟨o_28, fput F_29 49 (2 * v + way) (vp_nar .boolean 1), L_31, (nI (ix (2 * v + way) 0)), 0, ls, by omega, fun _ => rfl, (L_31g.keep rfl rfl), L_31c, L_31l, (L_31q.F (by decide)), L_31w.on, R_33e.symm, rfl, rfl, hP, hS, lv_sub hl [4, 5, 6, 3, 2, 1, 0] rfl, rfl⟩
        · intro H locs k sl g hI
          obtain ⟨o1, F1, L1, kv, i, ls, hp0, hp1, hp2, hp3, hp4, hp5, hp6, hp7, rfl, rfl, hP, hS, hl, rfl⟩ := hI
          have hR1 := hR.tell hp5
          obtain ⟨l1_, l2_, l3_, l4_, l5_⟩ := hR1.2.2.2.2.2.2.1 v hv9 way hw2
          have hLR : L1 = R_33 := hp7
          refine lv_iload hx hb dX8_tellVariable_85 (lv_at hl 6 rfl) ?_
          refine lv_aload_n hx hb dX8_tellVariable_87 rfl (lv_at hl 0 rfl) ?_
          refine m_get (v := .ref (md G 21)) hx hb htu wu_in hown hK hP 21 (by decide) (htu _ U_116) rfl rfl dX8_tellVariable_88 ?_
          refine lv_iload_n hx hb dX8_tellVariable_91 rfl (lv_at hl 3 rfl) ?_
          refine m_ald (j := 2 * v + way) (v := nI ((row z way (z.1 6 v)).length)) hx hb hK hP 18 21 rfl (by omega) (by decide) l1_ dX8_tellVariable_92 ?_
          refine lv_icmp_ge (tgt := 123) hx hb dX8_tellVariable_93 (by decide) (fun c_34 => ?_) (fun c_34 => absurd (nI_le (by omega) (by omega)) c_34)
          refine lv_aload_n hx hb dX8_tellVariable_123 rfl (lv_at hl 0 rfl) ?_
          refine m_get (v := .ref (md G 49)) hx hb htu wu_in hown hK hP 49 (by decide) (htu _ U_189) rfl rfl dX8_tellVariable_124 ?_
          refine lv_iload_n hx hb dX8_tellVariable_127 rfl (lv_at hl 3 rfl) ?_
          refine lv_iconst (v := 0) hx hb dX8_tellVariable_128 (by decide) ?_
          refine m_zast (j := 2 * v + way) (x := 0) hx hb hK hP hDD hS 29 49 rfl (by omega) (by decide) (mW_a49 _ _ _ _ _) dX8_tellVariable_129 (fun H locs hP hS => ?_)
          refine lv_aload_n hx hb dX8_tellVariable_130 rfl (lv_at hl 0 rfl) ?_
          have kq9 : Kq LTl o F (o1, fput F1 49 (2 * v + way) (vp_nar .boolean 0)) := hp5.F (by decide)
          have kg9 : MG9 o1 (fput F1 49 (2 * v + way) (vp_nar .boolean 0)) L1 := hp2.keep rfl rfl
          have kw9 : WI (fput F1 49 (2 * v + way) (vp_nar .boolean 0)) w9 := WI.off hp6 hwf
          refine lv_bipush (v := 46) hx hb dX8_tellVariable_131 (by decide) ?_
          refine m_cv (m_runV (As := [.int 46]) (rest := []) ⟨hx, hb, hml, hown, htu⟩ (m_out l G hDD o1 (fput F1 49 (2 * v + way) (vp_nar .boolean 0)) L1.length 400 46 kg9.1 (((kq9 48 (by decide)).1.trans h48)) ((by decide)) hp3 H.size) (cwV 1 htu gU_X8_out rfl rfl rfl (by decide +kernel) ⟨show 0 + 1 ≤ 2 * (d + 1) + 1 by omega, show 8 + (2 + 11) + 0 ≤ 50 * (d + 1) + 74 by omega⟩) hP hK rfl hl.1 rfl (lv_room (Nat.le_of_ble_eq_true rfl)) dX8_tellVariable_133) hS (fun o_36 F_37 H locs hw_38 hP hS => ?_)
          try dsimp only at hw_38
          obtain ⟨L_39g, L_39q0⟩ := MG9.out4 kg9 hw_38
          obtain ⟨L_39, L_39e⟩ : ∃ L', L' = lput 400 L1 (b8 46) := ⟨_, rfl⟩
          rw [← L_39e] at L_39g
          have L_39c : L_39.length ≤ 400 := by rw [L_39e]; exact (lp_len hp3).1
          have L_39l : L9.length + 1 ≤ L_39.length := by rw [L_39e]; exact Nat.le_trans hp4 (lp_len hp3).2
          have L_39q : Kq LTl o F (o_36, F_37) := kq9.tr (L_39q0.mono (by decide))
          have L_39w : WI F_37 w9 := kw9.to (L_39q0 49 (by decide)).2
          exact m_vret hx hb hr hK hP hS ⟨by rw [tvx_b h3n, if_neg nc_16]; unfold tln; rw [← L_21e, ← L_26e, ← L_31e, ← R_33e, ← hLR, ← L_39e]; exact L_39g, L_39q, L_39w⟩ dX8_tellVariable_136 hlocks
        · intro j ih9 H locs k sl g hI
          obtain ⟨o1, F1, L1, kv, i, ls, hp0, hp1, hp2, hp3, hp4, hp5, hp6, hp7, rfl, rfl, hP, hS, hl, rfl⟩ := hI
          have hR1 := hR.tell hp5
          obtain ⟨l1_, l2_, l3_, l4_, l5_⟩ := hR1.2.2.2.2.2.2.1 v hv9 way hw2
          have ni : i < (row z way (z.1 6 v)).length := by omega
          have hkv := hp1 ni
          subst hkv
          obtain ⟨y1_, y2_, y3_, y4_⟩ := l5_ i ni
          refine lv_iload hx hb dX8_tellVariable_85 (lv_at hl 6 rfl) ?_
          refine lv_aload_n hx hb dX8_tellVariable_87 rfl (lv_at hl 0 rfl) ?_
          refine m_get (v := .ref (md G 21)) hx hb htu wu_in hown hK hP 21 (by decide) (htu _ U_116) rfl rfl dX8_tellVariable_88 ?_
          refine lv_iload_n hx hb dX8_tellVariable_91 rfl (lv_at hl 3 rfl) ?_
          refine m_ald (j := 2 * v + way) (v := nI ((row z way (z.1 6 v)).length)) hx hb hK hP 18 21 rfl (by omega) (by decide) l1_ dX8_tellVariable_92 ?_
          refine lv_icmp_ge (tgt := 123) hx hb dX8_tellVariable_93 (by decide) (fun c_40 => absurd c_40 (nI_ge ni (by omega))) (fun c_40 => ?_)
          refine lv_aload_n hx hb dX8_tellVariable_96 rfl (lv_at hl 0 rfl) ?_
          refine lv_aload_n hx hb dX8_tellVariable_97 rfl (lv_at hl 0 rfl) ?_
          refine m_get (v := .ref (md G 17)) hx hb htu wu_in hown hK hP 17 (by decide) (htu _ U_118) rfl rfl dX8_tellVariable_98 ?_
          refine lv_iload hx hb dX8_tellVariable_101 (lv_at hl 5 rfl) ?_
          refine m_ald (j := ix (2 * v + way) i) (v := nI ((row z way (z.1 6 v)).getD i 0)) hx hb hK hP 14 17 rfl (by omega) (by decide) y2_ dX8_tellVariable_103 ?_
          refine lv_iload_n hx hb dX8_tellVariable_104 rfl (lv_at hl 2 rfl) ?_
          refine m_cv (m_runV (As := [.int (nI ((row z way (z.1 6 v)).getD i 0)), .int (nI way)]) (rest := []) ⟨hx, hb, hml, hown, htu⟩ (ih l G hDD o1 F1 z ix L1 ((wor w9 (2 * v + way))) ((row z way (z.1 6 v)).getD i 0) way hR1 hp2 hp3 (((hp5 48 (by decide)).1.trans h48)) hp6 ((by omega)) y3_ hw2 H.size) (cwV 2 htu gU_X8_tell rfl rfl rfl (by decide +kernel) ⟨show (2 * d + 2) + 1 ≤ 2 * (d + 1) + 1 by omega, show 8 + (4 + 11) + (50 * d + 100) ≤ 50 * (d + 1) + 74 by omega⟩) hP hK rfl hl.1 rfl (lv_room (Nat.le_of_ble_eq_true rfl)) dX8_tellVariable_105) hS (fun o_42 F_43 H locs hw_44 hP hS => ?_)
          try dsimp only at hw_44
          obtain ⟨L_45g, L_45q0, L_45w⟩ := hw_44
          obtain ⟨L_45, L_45e⟩ : ∃ L', L' = tl z 401 (wor w9 (2 * v + way)) ((row z way (z.1 6 v)).getD i 0) way L1 := ⟨_, rfl⟩
          rw [← L_45e] at L_45g
          have L_45c : L_45.length ≤ 400 := by rw [L_45e]; exact (tl_len _ _ _ _ _ hp3).1
          have L_45l : L9.length + 1 ≤ L_45.length := by rw [L_45e]; exact Nat.le_trans hp4 (tl_len _ _ _ _ _ hp3).2
          have L_45q : Kq LTl o F (o_42, F_43) := hp5.tr L_45q0
          have L_45R := hR.tell L_45q
          obtain ⟨z1_, z2_, z3_, z4_, z5_⟩ := L_45R.2.2.2.2.2.2.1 v hv9 way hw2
          have z18 := (z5_ i ni).2.2.2
          refine lv_aload_n hx hb dX8_tellVariable_108 rfl (lv_at hl 0 rfl) ?_
          refine m_get (v := .ref (md G 18)) hx hb htu wu_in hown hK hP 18 (by decide) (htu _ U_119) rfl rfl dX8_tellVariable_109 ?_
          refine lv_iload hx hb dX8_tellVariable_112 (lv_at hl 5 rfl) ?_
          refine m_ald (j := ix (2 * v + way) i) (v := F_43 18 (ix (2 * v + way) i)) hx hb hK hP 15 18 rfl (by omega) (by decide) rfl dX8_tellVariable_114 ?_
          refine lv_istore (lv' := [(5, .int (F_43 18 (ix (2 * v + way) i))), (0, .ref (mh G)), (1, .int (nI v)), (2, .int (nI way)), (3, .int (nI (2 * v + way))), (4, .int 0), (6, .int (nI i))]) hx hb dX8_tellVariable_115 hl (by decide) rfl (fun ls hl => ?_)
          refine lv_iinc (v := nI (i + 1)) (lv' := [(6, .int (nI (i + 1))), (5, .int (F_43 18 (ix (2 * v + way) i))), (0, .ref (mh G)), (1, .int (nI v)), (2, .int (nI way)), (3, .int (nI (2 * v + way))), (4, .int 0)]) hx hb dX8_tellVariable_117 hl (k := 6) rfl (nI_1 i) (by decide) rfl (fun ls hl => ?_)
          refine lv_goto (tgt := 85) hx hb dX8_tellVariable_120 (by decide) ?_
          exact ih9 _ _ _ _ _ ⟨o_42, F_43, L_45, (F_43 18 (ix (2 * v + way) i)), i + 1, ls, by omega, (fun h => z18.trans (if_pos h)), L_45g, L_45c, L_45l, L_45q, L_45w, (by rw [L_45e]; exact hp7), rfl, rfl, hP, hS, lv_sub hl [2, 3, 4, 5, 6, 1, 0] rfl, rfl⟩
      · skip
        have nc_16 : way = 0 := (nI_eq (a := way) (b := 0) (by omega) (by omega)).mp c_16
        refine lv_bipush (v := 124) hx hb dX8_tellVariable_41 (by decide) ?_
        refine lv_goto (tgt := 48) hx hb dX8_tellVariable_43 (by decide) ?_
        refine m_cv (m_runV (As := [.int 124]) (rest := []) ⟨hx, hb, hml, hown, htu⟩ (m_out l G hDD o F L9.length 400 124 hG.1 ((((Kq.rf (L := LTl) (o := o) (F := F)) 48 (by decide)).1.trans h48)) ((by decide)) hcap H.size) (cwV 1 htu gU_X8_out rfl rfl rfl (by decide +kernel) ⟨show 0 + 1 ≤ 2 * (d + 1) + 1 by omega, show 8 + (2 + 11) + 0 ≤ 50 * (d + 1) + 74 by omega⟩) hP hK rfl hl.1 rfl (lv_room (Nat.le_of_ble_eq_true rfl)) dX8_tellVariable_48) hS (fun o_47 F_48 H locs hw_49 hP hS => ?_)
        try dsimp only at hw_49
        obtain ⟨L_50g, L_50q0⟩ := MG9.out4 hG hw_49
        obtain ⟨L_50, L_50e⟩ : ∃ L', L' = lput 400 L9 (b8 124) := ⟨_, rfl⟩
        rw [← L_50e] at L_50g
        have L_50c : L_50.length ≤ 400 := by rw [L_50e]; exact (lp_len hcap).1
        have L_50l : L9.length + 1 ≤ L_50.length := by rw [L_50e]; exact Nat.le_of_eq (lpq1 hnf).symm
        have L_50q : Kq LTl o F (o_47, F_48) := (Kq.rf (L := LTl) (o := o) (F := F)).tr (L_50q0.mono (by decide))
        have L_50w : WI F_48 w9 := hWI.to (L_50q0 49 (by decide)).2
        refine lv_aload_n hx hb dX8_tellVariable_51 rfl (lv_at hl 2 rfl) ?_
        refine lv_bipush (v := 39) hx hb dX8_tellVariable_52 (by decide) ?_
        refine m_cv (m_runV (As := [.int 39]) (rest := []) ⟨hx, hb, hml, hown, htu⟩ (m_out l G hDD o_47 F_48 L_50.length 400 39 L_50g.1 (((L_50q 48 (by decide)).1.trans h48)) ((by decide)) L_50c H.size) (cwV 1 htu gU_X8_out rfl rfl rfl (by decide +kernel) ⟨show 0 + 1 ≤ 2 * (d + 1) + 1 by omega, show 8 + (2 + 11) + 0 ≤ 50 * (d + 1) + 74 by omega⟩) hP hK rfl hl.1 rfl (lv_room (Nat.le_of_ble_eq_true rfl)) dX8_tellVariable_54) hS (fun o_52 F_53 H locs hw_54 hP hS => ?_)
        try dsimp only at hw_54
        obtain ⟨L_55g, L_55q0⟩ := MG9.out4 L_50g hw_54
        obtain ⟨L_55, L_55e⟩ : ∃ L', L' = lput 400 L_50 (b8 39) := ⟨_, rfl⟩
        rw [← L_55e] at L_55g
        have L_55c : L_55.length ≤ 400 := by rw [L_55e]; exact (lp_len L_50c).1
        have L_55l : L9.length + 1 ≤ L_55.length := by rw [L_55e]; exact Nat.le_trans L_50l (lp_len L_50c).2
        have L_55q : Kq LTl o F (o_52, F_53) := L_50q.tr (L_55q0.mono (by decide))
        have L_55w : WI F_53 w9 := L_50w.to (L_55q0 49 (by decide)).2
        refine lv_aload_n hx hb dX8_tellVariable_57 rfl (lv_at hl 2 rfl) ?_
        refine lv_iload_n hx hb dX8_tellVariable_58 rfl (lv_at hl 3 rfl) ?_
        refine m_cv (m_runV (As := [.int (nI v)]) (rest := []) ⟨hx, hb, hml, hown, htu⟩ (xt_outNumber l G hDD o_52 F_53 L_55 (nI v) L_55g L_55c (((L_55q 48 (by decide)).1.trans h48)) H.size) (cwV 1 htu gU_X8_outNumber rfl rfl rfl (by decide +kernel) ⟨show 1 + 1 ≤ 2 * (d + 1) + 1 by omega, show 8 + (6 + 11) + 21 ≤ 50 * (d + 1) + 74 by omega⟩) hP hK rfl hl.1 rfl (lv_room (Nat.le_of_ble_eq_true rfl)) dX8_tellVariable_59) hS (fun o_57 F_58 H locs hw_59 hP hS => ?_)
        try dsimp only at hw_59
        obtain ⟨L_60g, L_60q0⟩ := hw_59
        obtain ⟨L_60, L_60e⟩ : ∃ L', L' = lputs 400 L_55 (figs (nI v)) := ⟨_, rfl⟩
        rw [← L_60e] at L_60g
        have L_60c : L_60.length ≤ 400 := by rw [L_60e]; exact (lputs_len _ _ L_55c).1
        have L_60l : L9.length + 1 ≤ L_60.length := by rw [L_60e]; exact Nat.le_trans L_55l (lputs_len _ _ L_55c).2
        have L_60q : Kq LTl o F (o_57, F_58) := L_55q.tr (L_60q0.mono (by decide))
        have L_60w : WI F_58 w9 := L_55w.to (L_60q0 49 (by decide)).2
        refine lv_iload hx hb dX8_tellVariable_62 (lv_at hl 0 rfl) ?_
        refine lv_if_ne (tgt := 136) hx hb dX8_tellVariable_64 (by decide) (fun c_61 => absurd (by decide) c_61) (fun c_61 => ?_)
        refine lv_aload_n hx hb dX8_tellVariable_67 rfl (lv_at hl 2 rfl) ?_
        refine m_get (v := .ref (md G 49)) hx hb htu wu_in hown hK hP 49 (by decide) (htu _ U_189) rfl rfl dX8_tellVariable_68 ?_
        refine lv_iload_n hx hb dX8_tellVariable_71 rfl (lv_at hl 1 rfl) ?_
        refine lv_iconst (v := 1) hx hb dX8_tellVariable_72 (by decide) ?_
        refine m_zast (j := 2 * v + way) (x := 1) hx hb hK hP hDD hS 29 49 rfl (by omega) (by decide) (mW_a49 _ _ _ _ _) dX8_tellVariable_73 (fun H locs hP hS => ?_)
        refine lv_aload_n hx hb dX8_tellVariable_74 rfl (lv_at hl 2 rfl) ?_
        refine m_get (v := .ref (md G 19)) hx hb htu wu_in hown hK hP 19 (by decide) (htu _ U_117) rfl rfl dX8_tellVariable_75 ?_
        refine lv_iload_n hx hb dX8_tellVariable_78 rfl (lv_at hl 1 rfl) ?_
        have hRa := hR.tell L_60q
        obtain ⟨a1_, a2_, a3_, a4_, a5_⟩ := hRa.2.2.2.2.2.2.1 v hv9 way hw2
        have len9 : 0 < (row z way (z.1 6 v)).length := Nat.pos_of_ne_zero nc_14
        have h3n : ¬ ((row z way (z.1 6 v)).length = 0 ∨ w9 (2 * v + way) = true) := fun h => h.elim nc_14 (fun h2 => by rw [hwf] at h2; cases h2)
        obtain ⟨R_62, R_62e⟩ : ∃ R, R = tlb (fun p L => tl z 401 (wor w9 (2 * v + way)) p way L) (row z way (z.1 6 v)) (row z way (z.1 6 v)).length 0 L_60 := ⟨_, rfl⟩
        refine m_ald (j := 2 * v + way) (v := nI (ix (2 * v + way) 0)) hx hb hK hP 16 19 rfl (by omega) (by decide) (by have := (a3_ len9).1; exact this) dX8_tellVariable_79 ?_
        refine lv_istore (lv' := [(5, .int (nI (ix (2 * v + way) 0))), (4, .int 0), (3, .int (nI (2 * v + way))), (0, .ref (mh G)), (1, .int (nI v)), (2, .int (nI way))]) hx hb dX8_tellVariable_80 hl (by decide) rfl (fun ls hl => ?_)
        refine lv_iconst (v := 0) hx hb dX8_tellVariable_82 (by decide) ?_
        refine lv_istore (lv' := [(6, .int 0), (5, .int (nI (ix (2 * v + way) 0))), (4, .int 0), (3, .int (nI (2 * v + way))), (0, .ref (mh G)), (1, .int (nI v)), (2, .int (nI way))]) hx hb dX8_tellVariable_83 hl (by decide) rfl (fun ls hl => ?_)
        refine w_loop (fun j H locs k sl g => ∃ (o1 : Nat → Int32) (F1 : Nat → Nat → Int32) (L1 : List Int32) (kv : Int32) (i : Nat) (ls : Array Slot), i + j = (row z way (z.1 6 v)).length ∧ (i < (row z way (z.1 6 v)).length → kv = nI (ix (2 * v + way) i)) ∧ MG9 o1 F1 L1 ∧ L1.length ≤ 400 ∧ L9.length + 1 ≤ L1.length ∧ Kq LTl o F (o1, F1) ∧ WI F1 (wor w9 (2 * v + way)) ∧ tlb (fun p L => tl z 401 (wor w9 (2 * v + way)) p way L) (row z way (z.1 6 v)) j i L1 = R_62 ∧ k = 0 ∧ sl = 0 ∧ mP G o1 F1 H ∧ va_S (mA G s.heap.size) s.heap H locs ∧ lv_has ls 7 [(0, .ref (mh G)), (1, .int (nI v)), (2, .int (nI way)), (3, .int (nI (2 * v + way))), (4, .int 0), (5, .int kv), (6, .int (nI i))] ∧ g = F0 m 85 ls []) ?_ ?_ ((row z way (z.1 6 v)).length) _ _ _ _ _ ⟨o_57, fput F_58 49 (2 * v + way) (vp_nar .boolean 1), L_60, (nI (ix (2 * v + way) 0)), 0, ls, by omega, fun _ => rfl, (L_60g.keep rfl rfl), L_60c, L_60l, (L_60q.F (by decide)), L_60w.on, R_62e.symm, rfl, rfl, hP, hS, lv_sub hl [4, 5, 6, 3, 2, 1, 0] rfl, rfl⟩
        · intro H locs k sl g hI
          obtain ⟨o1, F1, L1, kv, i, ls, hp0, hp1, hp2, hp3, hp4, hp5, hp6, hp7, rfl, rfl, hP, hS, hl, rfl⟩ := hI
          have hR1 := hR.tell hp5
          obtain ⟨l1_, l2_, l3_, l4_, l5_⟩ := hR1.2.2.2.2.2.2.1 v hv9 way hw2
          have hLR : L1 = R_62 := hp7
          refine lv_iload hx hb dX8_tellVariable_85 (lv_at hl 6 rfl) ?_
          refine lv_aload_n hx hb dX8_tellVariable_87 rfl (lv_at hl 0 rfl) ?_
          refine m_get (v := .ref (md G 21)) hx hb htu wu_in hown hK hP 21 (by decide) (htu _ U_116) rfl rfl dX8_tellVariable_88 ?_
          refine lv_iload_n hx hb dX8_tellVariable_91 rfl (lv_at hl 3 rfl) ?_
          refine m_ald (j := 2 * v + way) (v := nI ((row z way (z.1 6 v)).length)) hx hb hK hP 18 21 rfl (by omega) (by decide) l1_ dX8_tellVariable_92 ?_
          refine lv_icmp_ge (tgt := 123) hx hb dX8_tellVariable_93 (by decide) (fun c_63 => ?_) (fun c_63 => absurd (nI_le (by omega) (by omega)) c_63)
          refine lv_aload_n hx hb dX8_tellVariable_123 rfl (lv_at hl 0 rfl) ?_
          refine m_get (v := .ref (md G 49)) hx hb htu wu_in hown hK hP 49 (by decide) (htu _ U_189) rfl rfl dX8_tellVariable_124 ?_
          refine lv_iload_n hx hb dX8_tellVariable_127 rfl (lv_at hl 3 rfl) ?_
          refine lv_iconst (v := 0) hx hb dX8_tellVariable_128 (by decide) ?_
          refine m_zast (j := 2 * v + way) (x := 0) hx hb hK hP hDD hS 29 49 rfl (by omega) (by decide) (mW_a49 _ _ _ _ _) dX8_tellVariable_129 (fun H locs hP hS => ?_)
          refine lv_aload_n hx hb dX8_tellVariable_130 rfl (lv_at hl 0 rfl) ?_
          have kq9 : Kq LTl o F (o1, fput F1 49 (2 * v + way) (vp_nar .boolean 0)) := hp5.F (by decide)
          have kg9 : MG9 o1 (fput F1 49 (2 * v + way) (vp_nar .boolean 0)) L1 := hp2.keep rfl rfl
          have kw9 : WI (fput F1 49 (2 * v + way) (vp_nar .boolean 0)) w9 := WI.off hp6 hwf
          refine lv_bipush (v := 46) hx hb dX8_tellVariable_131 (by decide) ?_
          refine m_cv (m_runV (As := [.int 46]) (rest := []) ⟨hx, hb, hml, hown, htu⟩ (m_out l G hDD o1 (fput F1 49 (2 * v + way) (vp_nar .boolean 0)) L1.length 400 46 kg9.1 (((kq9 48 (by decide)).1.trans h48)) ((by decide)) hp3 H.size) (cwV 1 htu gU_X8_out rfl rfl rfl (by decide +kernel) ⟨show 0 + 1 ≤ 2 * (d + 1) + 1 by omega, show 8 + (2 + 11) + 0 ≤ 50 * (d + 1) + 74 by omega⟩) hP hK rfl hl.1 rfl (lv_room (Nat.le_of_ble_eq_true rfl)) dX8_tellVariable_133) hS (fun o_65 F_66 H locs hw_67 hP hS => ?_)
          try dsimp only at hw_67
          obtain ⟨L_68g, L_68q0⟩ := MG9.out4 kg9 hw_67
          obtain ⟨L_68, L_68e⟩ : ∃ L', L' = lput 400 L1 (b8 46) := ⟨_, rfl⟩
          rw [← L_68e] at L_68g
          have L_68c : L_68.length ≤ 400 := by rw [L_68e]; exact (lp_len hp3).1
          have L_68l : L9.length + 1 ≤ L_68.length := by rw [L_68e]; exact Nat.le_trans hp4 (lp_len hp3).2
          have L_68q : Kq LTl o F (o_65, F_66) := kq9.tr (L_68q0.mono (by decide))
          have L_68w : WI F_66 w9 := kw9.to (L_68q0 49 (by decide)).2
          exact m_vret hx hb hr hK hP hS ⟨by rw [tvx_b h3n, if_pos nc_16]; unfold tln; rw [← L_50e, ← L_55e, ← L_60e, ← R_62e, ← hLR, ← L_68e]; exact L_68g, L_68q, L_68w⟩ dX8_tellVariable_136 hlocks
        · intro j ih9 H locs k sl g hI
          obtain ⟨o1, F1, L1, kv, i, ls, hp0, hp1, hp2, hp3, hp4, hp5, hp6, hp7, rfl, rfl, hP, hS, hl, rfl⟩ := hI
          have hR1 := hR.tell hp5
          obtain ⟨l1_, l2_, l3_, l4_, l5_⟩ := hR1.2.2.2.2.2.2.1 v hv9 way hw2
          have ni : i < (row z way (z.1 6 v)).length := by omega
          have hkv := hp1 ni
          subst hkv
          obtain ⟨y1_, y2_, y3_, y4_⟩ := l5_ i ni
          refine lv_iload hx hb dX8_tellVariable_85 (lv_at hl 6 rfl) ?_
          refine lv_aload_n hx hb dX8_tellVariable_87 rfl (lv_at hl 0 rfl) ?_
          refine m_get (v := .ref (md G 21)) hx hb htu wu_in hown hK hP 21 (by decide) (htu _ U_116) rfl rfl dX8_tellVariable_88 ?_
          refine lv_iload_n hx hb dX8_tellVariable_91 rfl (lv_at hl 3 rfl) ?_
          refine m_ald (j := 2 * v + way) (v := nI ((row z way (z.1 6 v)).length)) hx hb hK hP 18 21 rfl (by omega) (by decide) l1_ dX8_tellVariable_92 ?_
          refine lv_icmp_ge (tgt := 123) hx hb dX8_tellVariable_93 (by decide) (fun c_69 => absurd c_69 (nI_ge ni (by omega))) (fun c_69 => ?_)
          refine lv_aload_n hx hb dX8_tellVariable_96 rfl (lv_at hl 0 rfl) ?_
          refine lv_aload_n hx hb dX8_tellVariable_97 rfl (lv_at hl 0 rfl) ?_
          refine m_get (v := .ref (md G 17)) hx hb htu wu_in hown hK hP 17 (by decide) (htu _ U_118) rfl rfl dX8_tellVariable_98 ?_
          refine lv_iload hx hb dX8_tellVariable_101 (lv_at hl 5 rfl) ?_
          refine m_ald (j := ix (2 * v + way) i) (v := nI ((row z way (z.1 6 v)).getD i 0)) hx hb hK hP 14 17 rfl (by omega) (by decide) y2_ dX8_tellVariable_103 ?_
          refine lv_iload_n hx hb dX8_tellVariable_104 rfl (lv_at hl 2 rfl) ?_
          refine m_cv (m_runV (As := [.int (nI ((row z way (z.1 6 v)).getD i 0)), .int (nI way)]) (rest := []) ⟨hx, hb, hml, hown, htu⟩ (ih l G hDD o1 F1 z ix L1 ((wor w9 (2 * v + way))) ((row z way (z.1 6 v)).getD i 0) way hR1 hp2 hp3 (((hp5 48 (by decide)).1.trans h48)) hp6 ((by omega)) y3_ hw2 H.size) (cwV 2 htu gU_X8_tell rfl rfl rfl (by decide +kernel) ⟨show (2 * d + 2) + 1 ≤ 2 * (d + 1) + 1 by omega, show 8 + (4 + 11) + (50 * d + 100) ≤ 50 * (d + 1) + 74 by omega⟩) hP hK rfl hl.1 rfl (lv_room (Nat.le_of_ble_eq_true rfl)) dX8_tellVariable_105) hS (fun o_71 F_72 H locs hw_73 hP hS => ?_)
          try dsimp only at hw_73
          obtain ⟨L_74g, L_74q0, L_74w⟩ := hw_73
          obtain ⟨L_74, L_74e⟩ : ∃ L', L' = tl z 401 (wor w9 (2 * v + way)) ((row z way (z.1 6 v)).getD i 0) way L1 := ⟨_, rfl⟩
          rw [← L_74e] at L_74g
          have L_74c : L_74.length ≤ 400 := by rw [L_74e]; exact (tl_len _ _ _ _ _ hp3).1
          have L_74l : L9.length + 1 ≤ L_74.length := by rw [L_74e]; exact Nat.le_trans hp4 (tl_len _ _ _ _ _ hp3).2
          have L_74q : Kq LTl o F (o_71, F_72) := hp5.tr L_74q0
          have L_74R := hR.tell L_74q
          obtain ⟨z1_, z2_, z3_, z4_, z5_⟩ := L_74R.2.2.2.2.2.2.1 v hv9 way hw2
          have z18 := (z5_ i ni).2.2.2
          refine lv_aload_n hx hb dX8_tellVariable_108 rfl (lv_at hl 0 rfl) ?_
          refine m_get (v := .ref (md G 18)) hx hb htu wu_in hown hK hP 18 (by decide) (htu _ U_119) rfl rfl dX8_tellVariable_109 ?_
          refine lv_iload hx hb dX8_tellVariable_112 (lv_at hl 5 rfl) ?_
          refine m_ald (j := ix (2 * v + way) i) (v := F_72 18 (ix (2 * v + way) i)) hx hb hK hP 15 18 rfl (by omega) (by decide) rfl dX8_tellVariable_114 ?_
          refine lv_istore (lv' := [(5, .int (F_72 18 (ix (2 * v + way) i))), (0, .ref (mh G)), (1, .int (nI v)), (2, .int (nI way)), (3, .int (nI (2 * v + way))), (4, .int 0), (6, .int (nI i))]) hx hb dX8_tellVariable_115 hl (by decide) rfl (fun ls hl => ?_)
          refine lv_iinc (v := nI (i + 1)) (lv' := [(6, .int (nI (i + 1))), (5, .int (F_72 18 (ix (2 * v + way) i))), (0, .ref (mh G)), (1, .int (nI v)), (2, .int (nI way)), (3, .int (nI (2 * v + way))), (4, .int 0)]) hx hb dX8_tellVariable_117 hl (k := 6) rfl (nI_1 i) (by decide) rfl (fun ls hl => ?_)
          refine lv_goto (tgt := 85) hx hb dX8_tellVariable_120 (by decide) ?_
          exact ih9 _ _ _ _ _ ⟨o_71, F_72, L_74, (F_72 18 (ix (2 * v + way) i)), i + 1, ls, by omega, (fun h => z18.trans (if_pos h)), L_74g, L_74c, L_74l, L_74q, L_74w, (by rw [L_74e]; exact hp7), rfl, rfl, hP, hS, lv_sub hl [2, 3, 4, 5, 6, 1, 0] rfl, rfl⟩
    · skip
      have nc_14 : (row z way (z.1 6 v)).length = 0 := (nI_eq (a := (row z way (z.1 6 v)).length) (b := 0) (by omega) (by omega)).mp c_14
      refine lv_iconst (v := 1) hx hb dX8_tellVariable_24 (by decide) ?_
      refine lv_goto (tgt := 29) hx hb dX8_tellVariable_25 (by decide) ?_
      refine lv_istore (lv' := [(4, .int 1), (3, .int (nI (2 * v + way))), (0, .ref (mh G)), (1, .int (nI v)), (2, .int (nI way))]) hx hb dX8_tellVariable_29 hl (by decide) rfl (fun ls hl => ?_)
      refine lv_iload hx hb dX8_tellVariable_31 (lv_at hl 0 rfl) ?_
      refine lv_if_ne (tgt := 51) hx hb dX8_tellVariable_33 (by decide) (fun c_75 => ?_) (fun c_75 => absurd c_75 (by decide))
      refine lv_aload_n hx hb dX8_tellVariable_51 rfl (lv_at hl 2 rfl) ?_
      refine lv_bipush (v := 39) hx hb dX8_tellVariable_52 (by decide) ?_
      refine m_cv (m_runV (As := [.int 39]) (rest := []) ⟨hx, hb, hml, hown, htu⟩ (m_out l G hDD o F L9.length 400 39 hG.1 ((((Kq.rf (L := LTl) (o := o) (F := F)) 48 (by decide)).1.trans h48)) ((by decide)) hcap H.size) (cwV 1 htu gU_X8_out rfl rfl rfl (by decide +kernel) ⟨show 0 + 1 ≤ 2 * (d + 1) + 1 by omega, show 8 + (2 + 11) + 0 ≤ 50 * (d + 1) + 74 by omega⟩) hP hK rfl hl.1 rfl (lv_room (Nat.le_of_ble_eq_true rfl)) dX8_tellVariable_54) hS (fun o_77 F_78 H locs hw_79 hP hS => ?_)
      try dsimp only at hw_79
      obtain ⟨L_80g, L_80q0⟩ := MG9.out4 hG hw_79
      obtain ⟨L_80, L_80e⟩ : ∃ L', L' = lput 400 L9 (b8 39) := ⟨_, rfl⟩
      rw [← L_80e] at L_80g
      have L_80c : L_80.length ≤ 400 := by rw [L_80e]; exact (lp_len hcap).1
      have L_80l : L9.length + 1 ≤ L_80.length := by rw [L_80e]; exact Nat.le_of_eq (lpq1 hnf).symm
      have L_80q : Kq LTl o F (o_77, F_78) := (Kq.rf (L := LTl) (o := o) (F := F)).tr (L_80q0.mono (by decide))
      have L_80w : WI F_78 w9 := hWI.to (L_80q0 49 (by decide)).2
      refine lv_aload_n hx hb dX8_tellVariable_57 rfl (lv_at hl 2 rfl) ?_
      refine lv_iload_n hx hb dX8_tellVariable_58 rfl (lv_at hl 3 rfl) ?_
      refine m_cv (m_runV (As := [.int (nI v)]) (rest := []) ⟨hx, hb, hml, hown, htu⟩ (xt_outNumber l G hDD o_77 F_78 L_80 (nI v) L_80g L_80c (((L_80q 48 (by decide)).1.trans h48)) H.size) (cwV 1 htu gU_X8_outNumber rfl rfl rfl (by decide +kernel) ⟨show 1 + 1 ≤ 2 * (d + 1) + 1 by omega, show 8 + (6 + 11) + 21 ≤ 50 * (d + 1) + 74 by omega⟩) hP hK rfl hl.1 rfl (lv_room (Nat.le_of_ble_eq_true rfl)) dX8_tellVariable_59) hS (fun o_82 F_83 H locs hw_84 hP hS => ?_)
      try dsimp only at hw_84
      obtain ⟨L_85g, L_85q0⟩ := hw_84
      obtain ⟨L_85, L_85e⟩ : ∃ L', L' = lputs 400 L_80 (figs (nI v)) := ⟨_, rfl⟩
      rw [← L_85e] at L_85g
      have L_85c : L_85.length ≤ 400 := by rw [L_85e]; exact (lputs_len _ _ L_80c).1
      have L_85l : L9.length + 1 ≤ L_85.length := by rw [L_85e]; exact Nat.le_trans L_80l (lputs_len _ _ L_80c).2
      have L_85q : Kq LTl o F (o_82, F_83) := L_80q.tr (L_85q0.mono (by decide))
      have L_85w : WI F_83 w9 := L_80w.to (L_85q0 49 (by decide)).2
      refine lv_iload hx hb dX8_tellVariable_62 (lv_at hl 0 rfl) ?_
      refine lv_if_ne (tgt := 136) hx hb dX8_tellVariable_64 (by decide) (fun c_86 => ?_) (fun c_86 => absurd c_86 (by decide))
      exact m_vret hx hb hr hK hP hS ⟨by rw [tvx_a (Or.inl nc_14)]; unfold tln; rw [← L_80e, ← L_85e]; exact L_85g, L_85q, L_85w⟩ dX8_tellVariable_136 hlocks

set_option maxHeartbeats 4000000 in
set_option maxRecDepth 100000 in
/-- tell, one more -/
theorem xt_tell_s (l : Launch) (G : mG) (hDD : mDD G) (o : Nat → Int32) (F : Nat → Nat → Int32) (d : Nat) (z : aS) (ix : Nat → Nat → Nat) (L9 : List Int32) (w9 : Nat → Bool) (t : Nat) (way : Nat) (ih : xTellAt d) (ihv : xTellVAt d) (hR : MR z ix o F) (hG : MG9 o F L9) (hcap : L9.length ≤ 400) (h48 : o 48 = nI 400) (hWI : WI F w9) (hd : 400 ≤ L9.length + (d + 1)) (ht : t < nT z) (hw2 : way < 2) (sz : Nat) : Met l yX8_tell (wU yX8_tell cX8_tell 4 none) { frames := 2 * (d + 1) + 2, cells := 0, slots := 0, locals := 50 * (d + 1) + 100 } (mPc G o F sz [.ref (mh G), .int (nI t), .int (nI way)]) (mQv G sz (fun u => MG9 u.1 u.2 (tl z 401 w9 t way L9) ∧ Kq LTl o F u ∧ WI u.2 w9)) 0 0 (mA G sz) := by
  refine Met.ofW (cc := cX8_tell) (maxL := 4) (ret := none) (by decide) rfl ?_
  intro p e s m args below meth c s₁ B hml hv
  obtain ⟨rfl, hsz, hP, hK⟩ := hv
  have hx := B.exec
  have hb := B.bytes
  have hr := B.returns
  have htu : ∀ w ∈ WU, w.before _ s = true := fun w h => atoms_spec (ws := (wU yX8_tell cX8_tell 4 none)) B.pre w (List.mem_cons_of_mem _ h)
  have hown : s.vm.findClass RX8 = some m.cls := findClass_of_methodNamed B.named
  have hlocks := B.notSynchronized
  subst hsz
  have hS : va_S (mA G s.heap.size) s.heap s.heap [] := va_S.rf
  have hl := lv_entry ([.ref (mh G), .int (nI t), .int (nI way)]) (n := 4) (Nat.le_of_ble_eq_true rfl)
  rw [lg_entry_eq]
  generalize (lg_sl ([.ref (mh G), .int (nI t), .int (nI way)]) ++ List.replicate (4 - (lg_sl ([.ref (mh G), .int (nI t), .int (nI way)])).length) Slot.unset).toArray = ls at hl ⊢
  have hl : lv_has ls 4 [(0, .ref (mh G)), (1, .int (nI t)), (2, .int (nI way))] := hl
  obtain ⟨H, hHe⟩ : ∃ H : Heap, H = s.heap := ⟨_, rfl⟩
  rw [← hHe] at hP
  have hS : va_S (mA G s.heap.size) s.heap H [] := by rw [hHe]; exact va_S.rf
  refine W.heq hHe ?_
  obtain ⟨b1, b2, b3, b4, b5, b6, b7, b8_⟩ := hR.2.1
  have ta := hR.2.2.1 t ht
  have tas := ta.2.2.1.1
  refine lv_aload_n hx hb dX8_tell_0 rfl (lv_at hl 0 rfl) ?_
  refine m_get (v := .int (nI ((L9.length)))) hx hb htu wu_in hown hK hP 47 (by decide) (htu _ U_187) rfl (m_v hG.1) dX8_tell_1 ?_
  refine lv_aload_n hx hb dX8_tell_4 rfl (lv_at hl 0 rfl) ?_
  refine m_get (v := .int 400) hx hb htu wu_in hown hK hP 48 (by decide) (htu _ U_188) rfl (m_v h48) dX8_tell_5 ?_
  refine lv_icmp_ne (tgt := 12) hx hb dX8_tell_8 (by decide) (fun c_1 => ?_) (fun c_1 => ?_)
  · skip
    have nc_1 : ¬ (L9.length) = 400 := fun h9 => c_1 ((nI_eq (a := (L9.length)) (b := 400) (by omega) (by omega)).mpr h9)
    have hnf : L9.length < 400 := Nat.lt_of_le_of_ne hcap nc_1
    refine lv_aload_n hx hb dX8_tell_12 rfl (lv_at hl 0 rfl) ?_
    refine m_get (v := .ref (md G 8)) hx hb htu wu_in hown hK hP 8 (by decide) (htu _ U_53) rfl rfl dX8_tell_13 ?_
    refine lv_iload_n hx hb dX8_tell_16 rfl (lv_at hl 1 rfl) ?_
    refine m_ald (j := t) (v := nI (srt z t)) hx hb hK hP 7 8 rfl (by omega) (by decide) ta.1 dX8_tell_17 ?_
    rcases Decidable.em (nI (srt z t) = 0) with c_2 | c_2
    · skip
      refine lv_tableIn (tgt := 44) hx hb dX8_tell_18 (by rw [c_2]; decide) (by rw [c_2]; decide) (by rw [c_2]; rfl) (by decide) ?_
      have hs9 : srt z t = 0 := (nI_eq (b := 0) (by omega) (by omega)).mp c_2
      refine lv_aload_n hx hb dX8_tell_44 rfl (lv_at hl 0 rfl) ?_
      refine lv_iload_n hx hb dX8_tell_45 rfl (lv_at hl 1 rfl) ?_
      refine lv_if_ne (tgt := 54) hx hb dX8_tell_46 (by decide) (fun c_3 => ?_) (fun c_3 => ?_)
      · skip
        have nc_3 : ¬ t = 0 := fun h9 => c_3 ((nI_eq (a := t) (b := 0) (by omega) (by omega)).mpr h9)
        refine lv_bipush (v := 116) hx hb dX8_tell_54 (by decide) ?_
        refine m_cv (m_runV (As := [.int 116]) (rest := []) ⟨hx, hb, hml, hown, htu⟩ (m_out l G hDD o F L9.length 400 116 hG.1 ((((Kq.rf (L := LTl) (o := o) (F := F)) 48 (by decide)).1.trans h48)) ((by decide)) hcap H.size) (cwV 1 htu gU_X8_out rfl rfl rfl (by decide +kernel) ⟨show 0 + 1 ≤ 2 * (d + 1) + 2 by omega, show 8 + (2 + 11) + 0 ≤ 50 * (d + 1) + 100 by omega⟩) hP hK rfl hl.1 rfl (lv_room (Nat.le_of_ble_eq_true rfl)) dX8_tell_56) hS (fun o_5 F_6 H locs hw_7 hP hS => ?_)
        try dsimp only at hw_7
        obtain ⟨L_8g, L_8q0⟩ := MG9.out4 hG hw_7
        obtain ⟨L_8, L_8e⟩ : ∃ L', L' = lput 400 L9 (b8 116) := ⟨_, rfl⟩
        rw [← L_8e] at L_8g
        have L_8c : L_8.length ≤ 400 := by rw [L_8e]; exact (lp_len hcap).1
        have L_8l : L9.length + 1 ≤ L_8.length := by rw [L_8e]; exact Nat.le_of_eq (lpq1 hnf).symm
        have L_8q : Kq LTl o F (o_5, F_6) := (Kq.rf (L := LTl) (o := o) (F := F)).tr (L_8q0.mono (by decide))
        have L_8w : WI F_6 w9 := hWI.to (L_8q0 49 (by decide)).2
        refine lv_goto (tgt := 173) hx hb dX8_tell_59 (by decide) ?_
        exact m_vret hx hb hr hK hP hS ⟨by rw [tl_e0 hnf hs9, if_neg nc_3, ← L_8e]; exact L_8g, L_8q, L_8w⟩ dX8_tell_173 hlocks
      · skip
        have nc_3 : t = 0 := (nI_eq (a := t) (b := 0) (by omega) (by omega)).mp c_3
        refine lv_bipush (v := 119) hx hb dX8_tell_49 (by decide) ?_
        refine lv_goto (tgt := 56) hx hb dX8_tell_51 (by decide) ?_
        refine m_cv (m_runV (As := [.int 119]) (rest := []) ⟨hx, hb, hml, hown, htu⟩ (m_out l G hDD o F L9.length 400 119 hG.1 ((((Kq.rf (L := LTl) (o := o) (F := F)) 48 (by decide)).1.trans h48)) ((by decide)) hcap H.size) (cwV 1 htu gU_X8_out rfl rfl rfl (by decide +kernel) ⟨show 0 + 1 ≤ 2 * (d + 1) + 2 by omega, show 8 + (2 + 11) + 0 ≤ 50 * (d + 1) + 100 by omega⟩) hP hK rfl hl.1 rfl (lv_room (Nat.le_of_ble_eq_true rfl)) dX8_tell_56) hS (fun o_10 F_11 H locs hw_12 hP hS => ?_)
        try dsimp only at hw_12
        obtain ⟨L_13g, L_13q0⟩ := MG9.out4 hG hw_12
        obtain ⟨L_13, L_13e⟩ : ∃ L', L' = lput 400 L9 (b8 119) := ⟨_, rfl⟩
        rw [← L_13e] at L_13g
        have L_13c : L_13.length ≤ 400 := by rw [L_13e]; exact (lp_len hcap).1
        have L_13l : L9.length + 1 ≤ L_13.length := by rw [L_13e]; exact Nat.le_of_eq (lpq1 hnf).symm
        have L_13q : Kq LTl o F (o_10, F_11) := (Kq.rf (L := LTl) (o := o) (F := F)).tr (L_13q0.mono (by decide))
        have L_13w : WI F_11 w9 := hWI.to (L_13q0 49 (by decide)).2
        refine lv_goto (tgt := 173) hx hb dX8_tell_59 (by decide) ?_
        exact m_vret hx hb hr hK hP hS ⟨by rw [tl_e0 hnf hs9, if_pos nc_3, ← L_13e]; exact L_13g, L_13q, L_13w⟩ dX8_tell_173 hlocks
    rcases Decidable.em (nI (srt z t) = 1) with c_14 | c_14
    · skip
      refine lv_tableIn (tgt := 62) hx hb dX8_tell_18 (by rw [c_14]; decide) (by rw [c_14]; decide) (by rw [c_14]; rfl) (by decide) ?_
      have hs9 : srt z t = 1 := (nI_eq (b := 1) (by omega) (by omega)).mp c_14
      obtain ⟨f1_, f2_, f3_, f4_⟩ := hR.2.2.2.1 t ht hs9
      refine lv_aload_n hx hb dX8_tell_62 rfl (lv_at hl 0 rfl) ?_
      refine lv_bipush (v := 62) hx hb dX8_tell_63 (by decide) ?_
      refine m_cv (m_runV (As := [.int 62]) (rest := []) ⟨hx, hb, hml, hown, htu⟩ (m_out l G hDD o F L9.length 400 62 hG.1 ((((Kq.rf (L := LTl) (o := o) (F := F)) 48 (by decide)).1.trans h48)) ((by decide)) hcap H.size) (cwV 1 htu gU_X8_out rfl rfl rfl (by decide +kernel) ⟨show 0 + 1 ≤ 2 * (d + 1) + 2 by omega, show 8 + (2 + 11) + 0 ≤ 50 * (d + 1) + 100 by omega⟩) hP hK rfl hl.1 rfl (lv_room (Nat.le_of_ble_eq_true rfl)) dX8_tell_65) hS (fun o_16 F_17 H locs hw_18 hP hS => ?_)
      try dsimp only at hw_18
      obtain ⟨L_19g, L_19q0⟩ := MG9.out4 hG hw_18
      obtain ⟨L_19, L_19e⟩ : ∃ L', L' = lput 400 L9 (b8 62) := ⟨_, rfl⟩
      rw [← L_19e] at L_19g
      have L_19c : L_19.length ≤ 400 := by rw [L_19e]; exact (lp_len hcap).1
      have L_19l : L9.length + 1 ≤ L_19.length := by rw [L_19e]; exact Nat.le_of_eq (lpq1 hnf).symm
      have L_19q : Kq LTl o F (o_16, F_17) := (Kq.rf (L := LTl) (o := o) (F := F)).tr (L_19q0.mono (by decide))
      have L_19w : WI F_17 w9 := hWI.to (L_19q0 49 (by decide)).2
      refine lv_aload_n hx hb dX8_tell_68 rfl (lv_at hl 0 rfl) ?_
      refine lv_aload_n hx hb dX8_tell_69 rfl (lv_at hl 0 rfl) ?_
      refine m_get (v := .ref (md G 10)) hx hb htu wu_in hown hK hP 10 (by decide) (htu _ U_80) rfl rfl dX8_tell_70 ?_
      refine lv_iload_n hx hb dX8_tell_73 rfl (lv_at hl 1 rfl) ?_
      refine m_ald (j := t) (v := nI (one z t)) hx hb hK hP 9 10 rfl (by omega) (by decide) ((congrFun ((L_19q 10 (by decide)).2) _).trans f1_) dX8_tell_74 ?_
      refine lv_iconst (v := 1) hx hb dX8_tell_75 (by decide) ?_
      refine lv_iload_n hx hb dX8_tell_76 rfl (lv_at hl 2 rfl) ?_
      refine lv_isub hx hb dX8_tell_77 ?_
      refine m_top (y := nI (1 - way)) (pk_sub (a := 1) (b := way) (by omega)) ?_
      refine m_cv (m_runV (As := [.int (nI (one z t)), .int (nI (1 - way))]) (rest := []) ⟨hx, hb, hml, hown, htu⟩ (ih l G hDD o_16 F_17 z ix L_19 w9 (one z t) (1 - way) ((hR.tell L_19q)) L_19g L_19c (((L_19q 48 (by decide)).1.trans h48)) L_19w ((by omega)) f3_ ((by omega)) H.size) (cwV 2 htu gU_X8_tell rfl rfl rfl (by decide +kernel) ⟨show (2 * d + 2) + 1 ≤ 2 * (d + 1) + 2 by omega, show 8 + (4 + 11) + (50 * d + 100) ≤ 50 * (d + 1) + 100 by omega⟩) hP hK rfl hl.1 rfl (lv_room (Nat.le_of_ble_eq_true rfl)) dX8_tell_78) hS (fun o_21 F_22 H locs hw_23 hP hS => ?_)
      try dsimp only at hw_23
      obtain ⟨L_24g, L_24q0, L_24w⟩ := hw_23
      obtain ⟨L_24, L_24e⟩ : ∃ L', L' = tl z 401 w9 (one z t) (1 - way) L_19 := ⟨_, rfl⟩
      rw [← L_24e] at L_24g
      have L_24c : L_24.length ≤ 400 := by rw [L_24e]; exact (tl_len _ _ _ _ _ L_19c).1
      have L_24l : L9.length + 1 ≤ L_24.length := by rw [L_24e]; exact Nat.le_trans L_19l (tl_len _ _ _ _ _ L_19c).2
      have L_24q : Kq LTl o F (o_21, F_22) := L_19q.tr L_24q0
      refine lv_aload_n hx hb dX8_tell_81 rfl (lv_at hl 0 rfl) ?_
      refine lv_aload_n hx hb dX8_tell_82 rfl (lv_at hl 0 rfl) ?_
      refine m_get (v := .ref (md G 11)) hx hb htu wu_in hown hK hP 11 (by decide) (htu _ U_114) rfl rfl dX8_tell_83 ?_
      refine lv_iload_n hx hb dX8_tell_86 rfl (lv_at hl 1 rfl) ?_
      refine m_ald (j := t) (v := nI (two z t)) hx hb hK hP 10 11 rfl (by omega) (by decide) ((congrFun ((L_24q 11 (by decide)).2) _).trans f2_) dX8_tell_87 ?_
      refine lv_iload_n hx hb dX8_tell_88 rfl (lv_at hl 2 rfl) ?_
      refine m_cv (m_runV (As := [.int (nI (two z t)), .int (nI way)]) (rest := []) ⟨hx, hb, hml, hown, htu⟩ (ih l G hDD o_21 F_22 z ix L_24 w9 (two z t) way ((hR.tell L_24q)) L_24g L_24c (((L_24q 48 (by decide)).1.trans h48)) L_24w ((by omega)) f4_ hw2 H.size) (cwV 2 htu gU_X8_tell rfl rfl rfl (by decide +kernel) ⟨show (2 * d + 2) + 1 ≤ 2 * (d + 1) + 2 by omega, show 8 + (4 + 11) + (50 * d + 100) ≤ 50 * (d + 1) + 100 by omega⟩) hP hK rfl hl.1 rfl (lv_room (Nat.le_of_ble_eq_true rfl)) dX8_tell_89) hS (fun o_26 F_27 H locs hw_28 hP hS => ?_)
      try dsimp only at hw_28
      obtain ⟨L_29g, L_29q0, L_29w⟩ := hw_28
      obtain ⟨L_29, L_29e⟩ : ∃ L', L' = tl z 401 w9 (two z t) (way) L_24 := ⟨_, rfl⟩
      rw [← L_29e] at L_29g
      have L_29c : L_29.length ≤ 400 := by rw [L_29e]; exact (tl_len _ _ _ _ _ L_24c).1
      have L_29l : L9.length + 1 ≤ L_29.length := by rw [L_29e]; exact Nat.le_trans L_24l (tl_len _ _ _ _ _ L_24c).2
      have L_29q : Kq LTl o F (o_26, F_27) := L_24q.tr L_29q0
      refine lv_goto (tgt := 173) hx hb dX8_tell_92 (by decide) ?_
      exact m_vret hx hb hr hK hP hS ⟨by rw [tl_e1 hnf hs9, ← L_19e, ← L_24e, ← L_29e]; exact L_29g, L_29q, L_29w⟩ dX8_tell_173 hlocks
    rcases Decidable.em (nI (srt z t) = 2) with c_30 | c_30
    · skip
      refine lv_tableIn (tgt := 95) hx hb dX8_tell_18 (by rw [c_30]; decide) (by rw [c_30]; decide) (by rw [c_30]; rfl) (by decide) ?_
      have hs9 : srt z t = 2 := (nI_eq (b := 2) (by omega) (by omega)).mp c_30
      obtain ⟨r1_, r2_, r3_, r4_⟩ := hR.2.2.2.2.1 t ht hs9
      refine lv_aload_n hx hb dX8_tell_95 rfl (lv_at hl 0 rfl) ?_
      refine lv_bipush (v := 123) hx hb dX8_tell_96 (by decide) ?_
      refine m_cv (m_runV (As := [.int 123]) (rest := []) ⟨hx, hb, hml, hown, htu⟩ (m_out l G hDD o F L9.length 400 123 hG.1 ((((Kq.rf (L := LTl) (o := o) (F := F)) 48 (by decide)).1.trans h48)) ((by decide)) hcap H.size) (cwV 1 htu gU_X8_out rfl rfl rfl (by decide +kernel) ⟨show 0 + 1 ≤ 2 * (d + 1) + 2 by omega, show 8 + (2 + 11) + 0 ≤ 50 * (d + 1) + 100 by omega⟩) hP hK rfl hl.1 rfl (lv_room (Nat.le_of_ble_eq_true rfl)) dX8_tell_98) hS (fun o_32 F_33 H locs hw_34 hP hS => ?_)
      try dsimp only at hw_34
      obtain ⟨L_35g, L_35q0⟩ := MG9.out4 hG hw_34
      obtain ⟨L_35, L_35e⟩ : ∃ L', L' = lput 400 L9 (b8 123) := ⟨_, rfl⟩
      rw [← L_35e] at L_35g
      have L_35c : L_35.length ≤ 400 := by rw [L_35e]; exact (lp_len hcap).1
      have L_35l : L9.length + 1 ≤ L_35.length := by rw [L_35e]; exact Nat.le_of_eq (lpq1 hnf).symm
      have L_35q : Kq LTl o F (o_32, F_33) := (Kq.rf (L := LTl) (o := o) (F := F)).tr (L_35q0.mono (by decide))
      have L_35w : WI F_33 w9 := hWI.to (L_35q0 49 (by decide)).2
      refine lv_iconst (v := 0) hx hb dX8_tell_101 (by decide) ?_
      refine lv_istore_n (lv' := [(3, .int 0), (0, .ref (mh G)), (1, .int (nI t)), (2, .int (nI way))]) hx hb dX8_tell_102 rfl hl (by decide) rfl (fun ls hl => ?_)
      obtain ⟨R_36, R_36e⟩ : ∃ R, R = tlf (fun p L => tl z 401 w9 p way L) (labs z t) (parts z t) (parts z t).length 0 L_35 := ⟨_, rfl⟩
      refine w_loop (fun j H locs k sl g => ∃ (o1 : Nat → Int32) (F1 : Nat → Nat → Int32) (L1 : List Int32) (i : Nat) (ls : Array Slot), i + j = (parts z t).length ∧ MG9 o1 F1 L1 ∧ L1.length ≤ 400 ∧ L9.length + 1 ≤ L1.length ∧ Kq LTl o F (o1, F1) ∧ WI F1 w9 ∧ tlf (fun p L => tl z 401 w9 p way L) (labs z t) (parts z t) j i L1 = R_36 ∧ k = 0 ∧ sl = 0 ∧ mP G o1 F1 H ∧ va_S (mA G s.heap.size) s.heap H locs ∧ lv_has ls 4 [(0, .ref (mh G)), (1, .int (nI t)), (2, .int (nI way)), (3, .int (nI i))] ∧ g = F0 m 103 ls []) ?_ ?_ ((parts z t).length) _ _ _ _ _ ⟨o_32, F_33, L_35, 0, ls, by omega, (L_35g.keep rfl rfl), L_35c, L_35l, L_35q, (L_35w.to rfl), R_36e.symm, rfl, rfl, hP, hS, lv_sub hl [1, 2, 3, 0] rfl, rfl⟩
      · intro H locs k sl g hI
        obtain ⟨o1, F1, L1, i, ls, hp0, hp1, hp2, hp3, hp4, hp5, hp6, rfl, rfl, hP, hS, hl, rfl⟩ := hI
        have hLR : L1 = R_36 := hp6
        refine lv_iload_n hx hb dX8_tell_103 rfl (lv_at hl 3 rfl) ?_
        refine lv_aload_n hx hb dX8_tell_104 rfl (lv_at hl 0 rfl) ?_
        refine m_get (v := .ref (md G 10)) hx hb htu wu_in hown hK hP 10 (by decide) (htu _ U_80) rfl rfl dX8_tell_105 ?_
        refine lv_iload_n hx hb dX8_tell_108 rfl (lv_at hl 1 rfl) ?_
        refine m_ald (j := t) (v := nI ((parts z t).length)) hx hb hK hP 9 10 rfl (by omega) (by decide) ((congrFun ((hp4 10 (by decide)).2) _).trans r1_) dX8_tell_109 ?_
        refine lv_icmp_ge (tgt := 153) hx hb dX8_tell_110 (by decide) (fun c_37 => ?_) (fun c_37 => absurd (nI_le (by omega) (by omega)) c_37)
        refine lv_aload_n hx hb dX8_tell_153 rfl (lv_at hl 0 rfl) ?_
        refine lv_bipush (v := 125) hx hb dX8_tell_154 (by decide) ?_
        refine m_cv (m_runV (As := [.int 125]) (rest := []) ⟨hx, hb, hml, hown, htu⟩ (m_out l G hDD o1 F1 L1.length 400 125 hp1.1 (((hp4 48 (by decide)).1.trans h48)) ((by decide)) hp2 H.size) (cwV 1 htu gU_X8_out rfl rfl rfl (by decide +kernel) ⟨show 0 + 1 ≤ 2 * (d + 1) + 2 by omega, show 8 + (2 + 11) + 0 ≤ 50 * (d + 1) + 100 by omega⟩) hP hK rfl hl.1 rfl (lv_room (Nat.le_of_ble_eq_true rfl)) dX8_tell_156) hS (fun o_39 F_40 H locs hw_41 hP hS => ?_)
        try dsimp only at hw_41
        obtain ⟨L_42g, L_42q0⟩ := MG9.out4 hp1 hw_41
        obtain ⟨L_42, L_42e⟩ : ∃ L', L' = lput 400 L1 (b8 125) := ⟨_, rfl⟩
        rw [← L_42e] at L_42g
        have L_42c : L_42.length ≤ 400 := by rw [L_42e]; exact (lp_len hp2).1
        have L_42l : L9.length + 1 ≤ L_42.length := by rw [L_42e]; exact Nat.le_trans hp3 (lp_len hp2).2
        have L_42q : Kq LTl o F (o_39, F_40) := hp4.tr (L_42q0.mono (by decide))
        have L_42w : WI F_40 w9 := hp5.to (L_42q0 49 (by decide)).2
        refine lv_goto (tgt := 173) hx hb dX8_tell_159 (by decide) ?_
        exact m_vret hx hb hr hK hP hS ⟨by rw [tl_e2 hnf hs9, ← L_35e, ← R_36e, ← hLR, ← L_42e]; exact L_42g, L_42q, L_42w⟩ dX8_tell_173 hlocks
      · intro j ih9 H locs k sl g hI
        obtain ⟨o1, F1, L1, i, ls, hp0, hp1, hp2, hp3, hp4, hp5, hp6, rfl, rfl, hP, hS, hl, rfl⟩ := hI
        have ni : i < (parts z t).length := by omega
        obtain ⟨q1_, q2_, q3_, q4_⟩ := r4_ i ni
        refine lv_iload_n hx hb dX8_tell_103 rfl (lv_at hl 3 rfl) ?_
        refine lv_aload_n hx hb dX8_tell_104 rfl (lv_at hl 0 rfl) ?_
        refine m_get (v := .ref (md G 10)) hx hb htu wu_in hown hK hP 10 (by decide) (htu _ U_80) rfl rfl dX8_tell_105 ?_
        refine lv_iload_n hx hb dX8_tell_108 rfl (lv_at hl 1 rfl) ?_
        refine m_ald (j := t) (v := nI ((parts z t).length)) hx hb hK hP 9 10 rfl (by omega) (by decide) ((congrFun ((hp4 10 (by decide)).2) _).trans r1_) dX8_tell_109 ?_
        refine lv_icmp_ge (tgt := 153) hx hb dX8_tell_110 (by decide) (fun c_43 => absurd c_43 (nI_ge ni (by omega))) (fun c_43 => ?_)
        refine lv_aload_n hx hb dX8_tell_113 rfl (lv_at hl 0 rfl) ?_
        refine lv_bipush (v := 97) hx hb dX8_tell_114 (by decide) ?_
        refine lv_aload_n hx hb dX8_tell_116 rfl (lv_at hl 0 rfl) ?_
        refine m_get (v := .ref (md G 12)) hx hb htu wu_in hown hK hP 12 (by decide) (htu _ U_89) rfl rfl dX8_tell_117 ?_
        refine lv_bipush (v := 6) hx hb dX8_tell_120 (by decide) ?_
        refine lv_iload_n hx hb dX8_tell_122 rfl (lv_at hl 1 rfl) ?_
        refine lv_imul hx hb dX8_tell_123 ?_
        refine m_top (y := nI (6 * t)) (pk_mul 6 t) ?_
        refine lv_iload_n hx hb dX8_tell_124 rfl (lv_at hl 3 rfl) ?_
        refine lv_iadd hx hb dX8_tell_125 ?_
        refine m_top (y := nI (6 * t + i)) (nI_add (6 * t) i) ?_
        refine m_ald (j := 6 * t + i) (v := nI ((labs z t).getD i 0)) hx hb hK hP 11 12 rfl (by omega) (by decide) ((congrFun ((hp4 12 (by decide)).2) _).trans q1_) dX8_tell_126 ?_
        refine lv_iadd hx hb dX8_tell_127 ?_
        refine m_top (y := nI (97 + (labs z t).getD i 0)) (n97 _) ?_
        refine m_cv (m_runV (As := [.int (nI (97 + (labs z t).getD i 0))]) (rest := []) ⟨hx, hb, hml, hown, htu⟩ (m_out l G hDD o1 F1 L1.length 400 (nI (97 + (labs z t).getD i 0)) hp1.1 (((hp4 48 (by decide)).1.trans h48)) ((by decide)) hp2 H.size) (cwV 1 htu gU_X8_out rfl rfl rfl (by decide +kernel) ⟨show 0 + 1 ≤ 2 * (d + 1) + 2 by omega, show 8 + (2 + 11) + 0 ≤ 50 * (d + 1) + 100 by omega⟩) hP hK rfl hl.1 rfl (lv_room (Nat.le_of_ble_eq_true rfl)) dX8_tell_128) hS (fun o_45 F_46 H locs hw_47 hP hS => ?_)
        try dsimp only at hw_47
        obtain ⟨L_48g, L_48q0⟩ := MG9.out4 hp1 hw_47
        obtain ⟨L_48, L_48e⟩ : ∃ L', L' = lput 400 L1 (b8 (nI (97 + (labs z t).getD i 0))) := ⟨_, rfl⟩
        rw [← L_48e] at L_48g
        have L_48c : L_48.length ≤ 400 := by rw [L_48e]; exact (lp_len hp2).1
        have L_48l : L9.length + 1 ≤ L_48.length := by rw [L_48e]; exact Nat.le_trans hp3 (lp_len hp2).2
        have L_48q : Kq LTl o F (o_45, F_46) := hp4.tr (L_48q0.mono (by decide))
        have L_48w : WI F_46 w9 := hp5.to (L_48q0 49 (by decide)).2
        refine lv_aload_n hx hb dX8_tell_131 rfl (lv_at hl 0 rfl) ?_
        refine lv_aload_n hx hb dX8_tell_132 rfl (lv_at hl 0 rfl) ?_
        refine m_get (v := .ref (md G 13)) hx hb htu wu_in hown hK hP 13 (by decide) (htu _ U_90) rfl rfl dX8_tell_133 ?_
        refine lv_bipush (v := 6) hx hb dX8_tell_136 (by decide) ?_
        refine lv_iload_n hx hb dX8_tell_138 rfl (lv_at hl 1 rfl) ?_
        refine lv_imul hx hb dX8_tell_139 ?_
        refine m_top (y := nI (6 * t)) (pk_mul 6 t) ?_
        refine lv_iload_n hx hb dX8_tell_140 rfl (lv_at hl 3 rfl) ?_
        refine lv_iadd hx hb dX8_tell_141 ?_
        refine m_top (y := nI (6 * t + i)) (nI_add (6 * t) i) ?_
        refine m_ald (j := 6 * t + i) (v := nI ((parts z t).getD i 0)) hx hb hK hP 12 13 rfl (by omega) (by decide) ((congrFun ((L_48q 13 (by decide)).2) _).trans q2_) dX8_tell_142 ?_
        refine lv_iload_n hx hb dX8_tell_143 rfl (lv_at hl 2 rfl) ?_
        refine m_cv (m_runV (As := [.int (nI ((parts z t).getD i 0)), .int (nI way)]) (rest := []) ⟨hx, hb, hml, hown, htu⟩ (ih l G hDD o_45 F_46 z ix L_48 w9 ((parts z t).getD i 0) way ((hR.tell L_48q)) L_48g L_48c (((L_48q 48 (by decide)).1.trans h48)) L_48w ((by omega)) q3_ hw2 H.size) (cwV 2 htu gU_X8_tell rfl rfl rfl (by decide +kernel) ⟨show (2 * d + 2) + 1 ≤ 2 * (d + 1) + 2 by omega, show 8 + (4 + 11) + (50 * d + 100) ≤ 50 * (d + 1) + 100 by omega⟩) hP hK rfl hl.1 rfl (lv_room (Nat.le_of_ble_eq_true rfl)) dX8_tell_144) hS (fun o_50 F_51 H locs hw_52 hP hS => ?_)
        try dsimp only at hw_52
        obtain ⟨L_53g, L_53q0, L_53w⟩ := hw_52
        obtain ⟨L_53, L_53e⟩ : ∃ L', L' = tl z 401 w9 ((parts z t).getD i 0) (way) L_48 := ⟨_, rfl⟩
        rw [← L_53e] at L_53g
        have L_53c : L_53.length ≤ 400 := by rw [L_53e]; exact (tl_len _ _ _ _ _ L_48c).1
        have L_53l : L9.length + 1 ≤ L_53.length := by rw [L_53e]; exact Nat.le_trans L_48l (tl_len _ _ _ _ _ L_48c).2
        have L_53q : Kq LTl o F (o_50, F_51) := L_48q.tr L_53q0
        refine lv_iinc (v := nI (i + 1)) (lv' := [(3, .int (nI (i + 1))), (0, .ref (mh G)), (1, .int (nI t)), (2, .int (nI way))]) hx hb dX8_tell_147 hl (k := 3) rfl (nI_1 i) (by decide) rfl (fun ls hl => ?_)
        refine lv_goto (tgt := 103) hx hb dX8_tell_150 (by decide) ?_
        exact ih9 _ _ _ _ _ ⟨o_50, F_51, L_53, i + 1, ls, by omega, L_53g, L_53c, L_53l, L_53q, L_53w, (by rw [L_53e, L_48e]; exact hp6), rfl, rfl, hP, hS, lv_sub hl [1, 2, 3, 0] rfl, rfl⟩
    have hout : (nI (srt z t)).toInt < 0 ∨ 2 < (nI (srt z t)).toInt := tb_out (nI (srt z t)) 0 2 (fun z h1 h2 e => by
      rcases (show z = 0 ∨ z = 1 ∨ z = 2 by omega) with rfl | rfl | rfl
      · exact c_2 (Int32.toInt_inj.mp (e.trans (by decide)))
      · exact c_14 (Int32.toInt_inj.mp (e.trans (by decide)))
      · exact c_30 (Int32.toInt_inj.mp (e.trans (by decide))))
    refine lv_tableOut (tgt := 162) hx hb dX8_tell_18 hout (by decide) ?_
    have s0n : srt z t ≠ 0 := fun h => c_2 (by rw [h]; rfl)
    have s1n : srt z t ≠ 1 := fun h => c_14 (by rw [h]; rfl)
    have s2n : srt z t ≠ 2 := fun h => c_30 (by rw [h]; rfl)
    have hs9 : srt z t = 3 := by omega
    obtain ⟨v1_, v2_, v3_⟩ := hR.2.2.2.2.2.1.1 t ht hs9
    refine lv_aload_n hx hb dX8_tell_162 rfl (lv_at hl 0 rfl) ?_
    refine lv_aload_n hx hb dX8_tell_163 rfl (lv_at hl 0 rfl) ?_
    refine m_get (v := .ref (md G 10)) hx hb htu wu_in hown hK hP 10 (by decide) (htu _ U_80) rfl rfl dX8_tell_164 ?_
    refine lv_iload_n hx hb dX8_tell_167 rfl (lv_at hl 1 rfl) ?_
    refine m_ald (j := t) (v := nI (one z t)) hx hb hK hP 9 10 rfl (by omega) (by decide) v1_ dX8_tell_168 ?_
    refine lv_iload_n hx hb dX8_tell_169 rfl (lv_at hl 2 rfl) ?_
    refine m_cv (m_runV (As := [.int (nI (one z t)), .int (nI way)]) (rest := []) ⟨hx, hb, hml, hown, htu⟩ (ihv l G hDD o F z ix L9 w9 (one z t) way hR hG hcap h48 hWI hnf ((by omega)) v2_ hw2 H.size) (cwV 2 htu gU_X8_tellVariable rfl rfl rfl (by decide +kernel) ⟨show (2 * (d + 1) + 1) + 1 ≤ 2 * (d + 1) + 2 by omega, show 8 + (7 + 11) + (50 * (d + 1) + 74) ≤ 50 * (d + 1) + 100 by omega⟩) hP hK rfl hl.1 rfl (lv_room (Nat.le_of_ble_eq_true rfl)) dX8_tell_170) hS (fun o_55 F_56 H locs hw_57 hP hS => ?_)
    try dsimp only at hw_57
    obtain ⟨L_58g, L_58q0, L_58w⟩ := hw_57
    obtain ⟨L_58, L_58e⟩ : ∃ L', L' = tvx z w9 (one z t) way L9 := ⟨_, rfl⟩
    rw [← L_58e] at L_58g
    have L_58q : Kq LTl o F (o_55, F_56) := (Kq.rf (L := LTl) (o := o) (F := F)).tr L_58q0
    exact m_vret hx hb hr hK hP hS ⟨by rw [tl_e3 hnf hs9 v3_, ← L_58e]; exact L_58g, L_58q, L_58w⟩ dX8_tell_173 hlocks
  · skip
    have nc_1 : (L9.length) = 400 := (nI_eq (a := (L9.length)) (b := 400) (by omega) (by omega)).mp c_1
    exact m_vret hx hb hr hK hP hS ⟨by rw [tl_full (by omega)]; exact hG, Kq.rf, hWI⟩ dX8_tell_11 hlocks

theorem xt_tell_all : ∀ d : Nat, xTellAt d := by
  intro d
  induction d with
  | zero =>
    intro l G hDD o F z ix L9 w9 t way hR hG hcap h48 hWI hd ht hw2 sz
    exact xt_tell_0 l G hDD o F z ix L9 w9 t way hR hG hcap h48 hWI hd ht hw2 sz
  | succ d ih =>
    intro l G hDD o F z ix L9 w9 t way hR hG hcap h48 hWI hd ht hw2 sz
    refine xt_tell_s l G hDD o F d z ix L9 w9 t way ih ?_ hR hG hcap h48 hWI hd ht hw2 sz
    intro l G hDD o F z ix L9 w9 v way hR hG hcap h48 hWI hnf hd hv9 hw2 sz
    exact xt_tellV_s l G hDD o F d z ix L9 w9 v way ih hR hG hcap h48 hWI hnf hd hv9 hw2 sz

