theorem dX8_isWithin_0 : decode cX8_isWithin 0 = .ok (.iload_n 1, 1) := by decide +kernel
theorem dX8_isWithin_1 : decode cX8_isWithin 1 = .ok (.istore_n 3, 1) := by decide +kernel
theorem dX8_isWithin_2 : decode cX8_isWithin 2 = .ok (.iload_n 3, 1) := by decide +kernel
theorem dX8_isWithin_3 : decode cX8_isWithin 3 = .ok (.bipush (-9), 2) := by decide +kernel
theorem dX8_isWithin_5 : decode cX8_isWithin 5 = .ok (.if_icmp .eq 18, 3) := by decide +kernel
theorem dX8_isWithin_23 : decode cX8_isWithin 23 = .ok (.iload_n 3, 1) := by decide +kernel
theorem dX8_isWithin_24 : decode cX8_isWithin 24 = .ok (.iload_n 2, 1) := by decide +kernel
theorem dX8_isWithin_25 : decode cX8_isWithin 25 = .ok (.if_icmp .ne 7, 3) := by decide +kernel
theorem dX8_isWithin_32 : decode cX8_isWithin 32 = .ok (.iconst 0, 1) := by decide +kernel
theorem dX8_isWithin_33 : decode cX8_isWithin 33 = .ok (.ireturn, 1) := by decide +kernel
theorem dX8_isWithin_8 : decode cX8_isWithin 8 = .ok (.iload_n 3, 1) := by decide +kernel
theorem dX8_isWithin_9 : decode cX8_isWithin 9 = .ok (.iload_n 2, 1) := by decide +kernel
theorem dX8_isWithin_10 : decode cX8_isWithin 10 = .ok (.if_icmp .eq 13, 3) := by decide +kernel
theorem dX8_isWithin_28 : decode cX8_isWithin 28 = .ok (.iconst 1, 1) := by decide +kernel
theorem dX8_isWithin_29 : decode cX8_isWithin 29 = .ok (.goto 4, 3) := by decide +kernel
theorem dX8_isWithin_13 : decode cX8_isWithin 13 = .ok (.aload_n 0, 1) := by decide +kernel
theorem dX8_isWithin_14 : decode cX8_isWithin 14 = .ok (.getfield 25, 3) := by decide +kernel
theorem dX8_isWithin_17 : decode cX8_isWithin 17 = .ok (.iload_n 3, 1) := by decide +kernel
theorem dX8_isWithin_18 : decode cX8_isWithin 18 = .ok (.iaload, 1) := by decide +kernel
theorem dX8_isWithin_19 : decode cX8_isWithin 19 = .ok (.istore_n 3, 1) := by decide +kernel
theorem dX8_isWithin_20 : decode cX8_isWithin 20 = .ok (.goto (-18), 3) := by decide +kernel
set_option maxHeartbeats 4000000 in
set_option maxRecDepth 100000 in
/-- isWithin -/
theorem m_isWithin (l : Launch) (G : mG) (hDD : mDD G) (o : Nat → Int32) (F : Nat → Nat → Int32) (tr : aM) (N : Nat) (n : Nat) (q : Nat) (rk : Nat → Nat) (hT : TRm tr N o F) (hf : TRf tr N F) (hrk : ∀ c, tr 3 c ≠ 0 → rk (tr 3 c - 1) < rk c) (hn : n < N) (hq : q < N) (sz : Nat) : Met l yX8_isWithin (wU yX8_isWithin cX8_isWithin 4 (some .boolean)) { frames := 0, cells := 0, slots := 0, locals := 0 } (mPc G o F sz [.ref (mh G), .int (nI n), .int (nI q)]) (mQi G sz (fun r u => u = (o, F) ∧ ((r = 1 ∧ Wi tr n q) ∨ (r = 0 ∧ ¬ Wi tr n q)))) 0 0 (mA G sz) := by
  refine Met.ofW (cc := cX8_isWithin) (maxL := 4) (ret := (some .boolean)) (by decide) rfl ?_
  intro p e s m args below meth c s₁ B hml hv
  obtain ⟨rfl, hsz, hP, hK⟩ := hv
  have hx := B.exec
  have hb := B.bytes
  have hr := B.returns
  have htu : ∀ w ∈ WU, w.before _ s = true := fun w h => atoms_spec (ws := (wU yX8_isWithin cX8_isWithin 4 (some .boolean))) B.pre w (List.mem_cons_of_mem _ h)
  have hown : s.vm.findClass RX8 = some m.cls := findClass_of_methodNamed B.named
  have hlocks := B.notSynchronized
  subst hsz
  have hS : va_S (mA G s.heap.size) s.heap s.heap [] := va_S.rf
  have hl := lv_entry ([.ref (mh G), .int (nI n), .int (nI q)]) (n := 4) (Nat.le_of_ble_eq_true rfl)
  rw [lg_entry_eq]
  generalize (lg_sl ([.ref (mh G), .int (nI n), .int (nI q)]) ++ List.replicate (4 - (lg_sl ([.ref (mh G), .int (nI n), .int (nI q)])).length) Slot.unset).toArray = ls at hl ⊢
  have hl : lv_has ls 4 [(0, .ref (mh G)), (1, .int (nI n)), (2, .int (nI q))] := hl
  obtain ⟨H, hHe⟩ : ∃ H : Heap, H = s.heap := ⟨_, rfl⟩
  rw [← hHe] at hP
  have hS : va_S (mA G s.heap.size) s.heap H [] := by rw [hHe]; exact va_S.rf
  refine W.heq hHe ?_
  have hN := hT.2.1
  refine lv_iload_n hx hb dX8_isWithin_0 rfl (lv_at hl 1 rfl) ?_
  refine lv_istore_n (lv' := [(3, .int (nI n)), (0, .ref (mh G)), (1, .int (nI n)), (2, .int (nI q))]) hx hb dX8_isWithin_1 rfl hl (by decide) rfl (fun ls hl => ?_)
  refine w_loop (fun j H locs k sl g => ∃ (yv : Int32) (ls : Array Slot), ((yv = -9 ∧ ¬ Wi tr n q) ∨ ∃ y, y < N ∧ yv = nI y ∧ rk y + 1 ≤ j ∧ (Wi tr n q ↔ Wi tr y q)) ∧ k = 0 ∧ sl = 0 ∧ mP G o F H ∧ va_S (mA G s.heap.size) s.heap H locs ∧ lv_has ls 4 [(3, .int yv), (0, .ref (mh G)), (1, .int (nI n)), (2, .int (nI q))] ∧ g = F0 m 2 ls []) ?_ ?_ ((rk n + 1)) _ _ _ _ _ ⟨(nI n), ls, (Or.inr ⟨n, hn, rfl, Nat.le_refl _, Iff.rfl⟩), rfl, rfl, hP, hS, lv_sub hl [0, 1, 2, 3] rfl, rfl⟩
  · intro H locs k sl g hI
    obtain ⟨yv, ls, hp0, rfl, rfl, hP, hS, hl, rfl⟩ := hI
    obtain ⟨hx9, hnw⟩ : yv = -9 ∧ ¬ Wi tr n q := by rcases hp0 with h | ⟨y, h1, h2, h3, h4⟩; exact h; omega
    refine lv_iload_n hx hb dX8_isWithin_2 rfl (lv_at hl 0 rfl) ?_
    refine lv_bipush (v := (-9)) hx hb dX8_isWithin_3 (by decide) ?_
    refine lv_icmp_eq (tgt := 23) hx hb dX8_isWithin_5 (by decide) (fun c_1 => ?_) (fun c_1 => absurd hx9 c_1)
    refine lv_iload_n hx hb dX8_isWithin_23 rfl (lv_at hl 0 rfl) ?_
    refine lv_iload_n hx hb dX8_isWithin_24 rfl (lv_at hl 3 rfl) ?_
    refine lv_icmp_ne (tgt := 32) hx hb dX8_isWithin_25 (by decide) (fun c_2 => ?_) (fun c_2 => absurd c_2 (fun h9 => nI_neg (n := q) (x := -9) (by decide) (by omega) (by rw [← h9, hx9])))
    refine lv_iconst (v := 0) hx hb dX8_isWithin_32 (by decide) ?_
    exact m_zret (v := 0) hx hb hr hK hP hS rfl ⟨rfl, Or.inr ⟨rfl, hnw⟩⟩ dX8_isWithin_33 hlocks
  · intro j ih9 H locs k sl g hI
    obtain ⟨yv, ls, hp0, rfl, rfl, hP, hS, hl, rfl⟩ := hI
    rcases hp0 with ⟨hx9, hnw⟩ | ⟨y, h1, h2, h3, h4⟩
    · skip
      refine lv_iload_n hx hb dX8_isWithin_2 rfl (lv_at hl 0 rfl) ?_
      refine lv_bipush (v := (-9)) hx hb dX8_isWithin_3 (by decide) ?_
      refine lv_icmp_eq (tgt := 23) hx hb dX8_isWithin_5 (by decide) (fun c_3 => ?_) (fun c_3 => absurd hx9 c_3)
      refine lv_iload_n hx hb dX8_isWithin_23 rfl (lv_at hl 0 rfl) ?_
      refine lv_iload_n hx hb dX8_isWithin_24 rfl (lv_at hl 3 rfl) ?_
      refine lv_icmp_ne (tgt := 32) hx hb dX8_isWithin_25 (by decide) (fun c_4 => ?_) (fun c_4 => absurd c_4 (fun h9 => nI_neg (n := q) (x := -9) (by decide) (by omega) (by rw [← h9, hx9])))
      refine lv_iconst (v := 0) hx hb dX8_isWithin_32 (by decide) ?_
      exact m_zret (v := 0) hx hb hr hK hP hS rfl ⟨rfl, Or.inr ⟨rfl, hnw⟩⟩ dX8_isWithin_33 hlocks
    · skip
      subst h2
      refine lv_iload_n hx hb dX8_isWithin_2 rfl (lv_at hl 0 rfl) ?_
      refine lv_bipush (v := (-9)) hx hb dX8_isWithin_3 (by decide) ?_
      refine lv_icmp_eq (tgt := 23) hx hb dX8_isWithin_5 (by decide) (fun c_5 => absurd c_5 (nI_neg (by decide) (by omega))) (fun c_5 => ?_)
      refine lv_iload_n hx hb dX8_isWithin_8 rfl (lv_at hl 0 rfl) ?_
      refine lv_iload_n hx hb dX8_isWithin_9 rfl (lv_at hl 3 rfl) ?_
      refine lv_icmp_eq (tgt := 23) hx hb dX8_isWithin_10 (by decide) (fun c_6 => ?_) (fun c_6 => ?_)
      · skip
        have nc_6 : y = q := (nI_eq (a := y) (b := q) (by omega) (by omega)).mp c_6
        refine lv_iload_n hx hb dX8_isWithin_23 rfl (lv_at hl 0 rfl) ?_
        refine lv_iload_n hx hb dX8_isWithin_24 rfl (lv_at hl 3 rfl) ?_
        refine lv_icmp_ne (tgt := 32) hx hb dX8_isWithin_25 (by decide) (fun c_7 => absurd c_6 c_7) (fun c_7 => ?_)
        refine lv_iconst (v := 1) hx hb dX8_isWithin_28 (by decide) ?_
        refine lv_goto (tgt := 33) hx hb dX8_isWithin_29 (by decide) ?_
        exact m_zret (v := 1) hx hb hr hK hP hS rfl ⟨rfl, Or.inl ⟨rfl, h4.mpr (by rw [nc_6]; exact Wi.rf)⟩⟩ dX8_isWithin_33 hlocks
      · skip
        have nc_6 : ¬ y = q := fun h9 => c_6 ((nI_eq (a := y) (b := q) (by omega) (by omega)).mpr h9)
        refine lv_aload_n hx hb dX8_isWithin_13 rfl (lv_at hl 1 rfl) ?_
        refine m_get (v := .ref (md G 6)) hx hb htu wu_in hown hK hP 6 (by decide) (htu _ U_5) rfl rfl dX8_isWithin_14 ?_
        refine lv_iload_n hx hb dX8_isWithin_17 rfl (lv_at hl 0 rfl) ?_
        refine m_ald (j := y) (v := F 6 y) hx hb hK hP 6 6 rfl (by omega) (by decide) rfl dX8_isWithin_18 ?_
        refine lv_istore_n (lv' := [(3, .int (F 6 y)), (0, .ref (mh G)), (1, .int (nI n)), (2, .int (nI q))]) hx hb dX8_isWithin_19 rfl hl (by decide) rfl (fun ls hl => ?_)
        refine lv_goto (tgt := 2) hx hb dX8_isWithin_20 (by decide) ?_
        have hnext : ((F 6 y = -9 ∧ ¬ Wi tr n q) ∨ ∃ y2, y2 < N ∧ F 6 y = nI y2 ∧ rk y2 + 1 ≤ j ∧ (Wi tr n q ↔ Wi tr y2 q)) := by
          rcases Decidable.em (tr 3 y = 0) with e3 | e3
          · exact Or.inl ⟨hf y h1 e3, fun hw => Wi.top e3 nc_6 (h4.mp hw)⟩
          · exact Or.inr ⟨tr 3 y - 1, ((hT.2.2 y h1).2.2.2.2.2.1 e3).2, ((hT.2.2 y h1).2.2.2.2.2.1 e3).1, by have := hrk y e3; omega, h4.trans (Wi.up e3 nc_6)⟩
        exact ih9 _ _ _ _ _ ⟨(F 6 y), ls, hnext, rfl, rfl, hP, hS, lv_sub hl [0, 1, 2, 3] rfl, rfl⟩

