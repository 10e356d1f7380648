theorem dX6_addValue_0 : decode cX6_addValue 0 = .ok (.aload_n 0, 1) := by decide +kernel
theorem dX6_addValue_1 : decode cX6_addValue 1 = .ok (.getfield 23, 3) := by decide +kernel
theorem dX6_addValue_4 : decode cX6_addValue 4 = .ok (.iload_n 1, 1) := by decide +kernel
theorem dX6_addValue_5 : decode cX6_addValue 5 = .ok (.invokevirtual 82, 3) := by decide +kernel
theorem dX6_addValue_8 : decode cX6_addValue 8 = .ok (.aload_n 0, 1) := by decide +kernel
theorem dX6_addValue_9 : decode cX6_addValue 9 = .ok (.getfield 27, 3) := by decide +kernel
theorem dX6_addValue_12 : decode cX6_addValue 12 = .ok (.iload_n 2, 1) := by decide +kernel
theorem dX6_addValue_13 : decode cX6_addValue 13 = .ok (.invokevirtual 82, 3) := by decide +kernel
theorem dX6_addValue_16 : decode cX6_addValue 16 = .ok (.aload_n 0, 1) := by decide +kernel
theorem dX6_addValue_17 : decode cX6_addValue 17 = .ok (.getfield 30, 3) := by decide +kernel
theorem dX6_addValue_20 : decode cX6_addValue 20 = .ok (.iload_n 3, 1) := by decide +kernel
theorem dX6_addValue_21 : decode cX6_addValue 21 = .ok (.invokevirtual 82, 3) := by decide +kernel
theorem dX6_addValue_24 : decode cX6_addValue 24 = .ok (.aload_n 0, 1) := by decide +kernel
theorem dX6_addValue_25 : decode cX6_addValue 25 = .ok (.getfield 23, 3) := by decide +kernel
theorem dX6_addValue_28 : decode cX6_addValue 28 = .ok (.getfield 85, 3) := by decide +kernel
theorem dX6_addValue_31 : decode cX6_addValue 31 = .ok (.iconst 1, 1) := by decide +kernel
theorem dX6_addValue_32 : decode cX6_addValue 32 = .ok (.isub, 1) := by decide +kernel
theorem dX6_addValue_33 : decode cX6_addValue 33 = .ok (.ireturn, 1) := by decide +kernel
theorem dX6_addSight_0 : decode cX6_addSight 0 = .ok (.aload_n 0, 1) := by decide +kernel
theorem dX6_addSight_1 : decode cX6_addSight 1 = .ok (.getfield 36, 3) := by decide +kernel
theorem dX6_addSight_4 : decode cX6_addSight 4 = .ok (.iload_n 1, 1) := by decide +kernel
theorem dX6_addSight_5 : decode cX6_addSight 5 = .ok (.invokevirtual 82, 3) := by decide +kernel
theorem dX6_addSight_8 : decode cX6_addSight 8 = .ok (.aload_n 0, 1) := by decide +kernel
theorem dX6_addSight_9 : decode cX6_addSight 9 = .ok (.getfield 39, 3) := by decide +kernel
theorem dX6_addSight_12 : decode cX6_addSight 12 = .ok (.iload_n 2, 1) := by decide +kernel
theorem dX6_addSight_13 : decode cX6_addSight 13 = .ok (.invokevirtual 82, 3) := by decide +kernel
theorem dX6_addSight_16 : decode cX6_addSight 16 = .ok (.aload_n 0, 1) := by decide +kernel
theorem dX6_addSight_17 : decode cX6_addSight 17 = .ok (.getfield 42, 3) := by decide +kernel
theorem dX6_addSight_20 : decode cX6_addSight 20 = .ok (.iload_n 3, 1) := by decide +kernel
theorem dX6_addSight_21 : decode cX6_addSight 21 = .ok (.invokevirtual 82, 3) := by decide +kernel
theorem dX6_addSight_24 : decode cX6_addSight 24 = .ok (.aload_n 0, 1) := by decide +kernel
theorem dX6_addSight_25 : decode cX6_addSight 25 = .ok (.getfield 45, 3) := by decide +kernel
theorem dX6_addSight_28 : decode cX6_addSight 28 = .ok (.iload 4, 2) := by decide +kernel
theorem dX6_addSight_30 : decode cX6_addSight 30 = .ok (.invokevirtual 82, 3) := by decide +kernel
theorem dX6_addSight_33 : decode cX6_addSight 33 = .ok (.aload_n 0, 1) := by decide +kernel
theorem dX6_addSight_34 : decode cX6_addSight 34 = .ok (.getfield 36, 3) := by decide +kernel
theorem dX6_addSight_37 : decode cX6_addSight 37 = .ok (.getfield 85, 3) := by decide +kernel
theorem dX6_addSight_40 : decode cX6_addSight 40 = .ok (.iconst 1, 1) := by decide +kernel
theorem dX6_addSight_41 : decode cX6_addSight 41 = .ok (.isub, 1) := by decide +kernel
theorem dX6_addSight_42 : decode cX6_addSight 42 = .ok (.ireturn, 1) := by decide +kernel
theorem dX6_stuckAt_0 : decode cX6_stuckAt 0 = .ok (.aload_n 0, 1) := by decide +kernel
theorem dX6_stuckAt_1 : decode cX6_stuckAt 1 = .ok (.iload_n 1, 1) := by decide +kernel
theorem dX6_stuckAt_2 : decode cX6_stuckAt 2 = .ok (.putfield 48, 3) := by decide +kernel
theorem dX6_stuckAt_5 : decode cX6_stuckAt 5 = .ok (.bipush (-3), 2) := by decide +kernel
theorem dX6_stuckAt_7 : decode cX6_stuckAt 7 = .ok (.ireturn, 1) := by decide +kernel
theorem dX6_seenBy_0 : decode cX6_seenBy 0 = .ok (.iload_n 2, 1) := by decide +kernel
theorem dX6_seenBy_1 : decode cX6_seenBy 1 = .ok (.istore_n 3, 1) := by decide +kernel
theorem dX6_seenBy_2 : decode cX6_seenBy 2 = .ok (.iconst 0, 1) := by decide +kernel
theorem dX6_seenBy_3 : decode cX6_seenBy 3 = .ok (.istore 4, 2) := by decide +kernel
theorem dX6_seenBy_5 : decode cX6_seenBy 5 = .ok (.iload 4, 2) := by decide +kernel
theorem dX6_seenBy_7 : decode cX6_seenBy 7 = .ok (.bipush 120, 2) := by decide +kernel
theorem dX6_seenBy_9 : decode cX6_seenBy 9 = .ok (.if_icmp .ge 38, 3) := by decide +kernel
theorem dX6_seenBy_47 : decode cX6_seenBy 47 = .ok (.bipush (-9), 2) := by decide +kernel
theorem dX6_seenBy_49 : decode cX6_seenBy 49 = .ok (.ireturn, 1) := by decide +kernel
theorem dX6_seenBy_12 : decode cX6_seenBy 12 = .ok (.iload_n 3, 1) := by decide +kernel
theorem dX6_seenBy_13 : decode cX6_seenBy 13 = .ok (.bipush (-9), 2) := by decide +kernel
theorem dX6_seenBy_15 : decode cX6_seenBy 15 = .ok (.if_icmp .eq 32, 3) := by decide +kernel
theorem dX6_seenBy_18 : decode cX6_seenBy 18 = .ok (.aload_n 0, 1) := by decide +kernel
theorem dX6_seenBy_19 : decode cX6_seenBy 19 = .ok (.getfield 36, 3) := by decide +kernel
theorem dX6_seenBy_22 : decode cX6_seenBy 22 = .ok (.iload_n 3, 1) := by decide +kernel
theorem dX6_seenBy_23 : decode cX6_seenBy 23 = .ok (.invokevirtual 131, 3) := by decide +kernel
theorem dX6_seenBy_26 : decode cX6_seenBy 26 = .ok (.iload_n 1, 1) := by decide +kernel
theorem dX6_seenBy_27 : decode cX6_seenBy 27 = .ok (.if_icmp .ne 5, 3) := by decide +kernel
theorem dX6_seenBy_32 : decode cX6_seenBy 32 = .ok (.aload_n 0, 1) := by decide +kernel
theorem dX6_seenBy_33 : decode cX6_seenBy 33 = .ok (.getfield 45, 3) := by decide +kernel
theorem dX6_seenBy_36 : decode cX6_seenBy 36 = .ok (.iload_n 3, 1) := by decide +kernel
theorem dX6_seenBy_37 : decode cX6_seenBy 37 = .ok (.invokevirtual 131, 3) := by decide +kernel
theorem dX6_seenBy_40 : decode cX6_seenBy 40 = .ok (.istore_n 3, 1) := by decide +kernel
theorem dX6_seenBy_41 : decode cX6_seenBy 41 = .ok (.iinc 4 1, 3) := by decide +kernel
theorem dX6_seenBy_44 : decode cX6_seenBy 44 = .ok (.goto (-39), 3) := by decide +kernel
theorem dX6_seenBy_30 : decode cX6_seenBy 30 = .ok (.iload_n 3, 1) := by decide +kernel
theorem dX6_seenBy_31 : decode cX6_seenBy 31 = .ok (.ireturn, 1) := by decide +kernel
/-! ===== the class's WORKING: what is made is paid for by what was begun ===== -/
def WR (S : cS) (al v s f bg : Nat) : Prop := (kK S 27 = v ∧ kK S 28 = v ∧ kK S 29 = v) ∧ kK S 30 = f ∧ (kK S 31 = s ∧ kK S 32 = s ∧ kK S 33 = s ∧ kK S 34 = s) ∧ S.1 110 = nI al ∧ S.1 111 = nI bg ∧ bg ≤ al ∧ al ≤ 300 ∧ v ≤ bg ∧ s ≤ bg ∧ f ≤ 6 * bg
def WX (u : cS) (al v s f bg c : Nat) : Prop := ∃ v1 s1 f1 bg1, WR u al v1 s1 f1 bg1 ∧ bg ≤ bg1 ∧ v1 + bg ≤ v + bg1 + c ∧ s1 + bg ≤ s + bg1 + c ∧ f1 + 6 * bg ≤ f + 6 * bg1 + 6 * c
theorem WR.aw {rs is : List Nat} {S u : cS} {al v s f bg : Nat} (h : WR S al v s f bg) (a : AW rs is S u) (hr : ∀ r ∈ [27, 28, 29, 30, 31, 32, 33, 34], r ∉ rs) (hi : 110 ∉ is ∧ 111 ∉ is) : WR u al v s f bg := by
  obtain ⟨⟨a1, a2, a3⟩, a4, ⟨a5, a6, a7, a8⟩, a9, a10, a11⟩ := h
  have k : ∀ r, r < 35 → r ∈ [27, 28, 29, 30, 31, 32, 33, 34] → kK u r = kK S r := fun r h1 h2 => (a.2.1 r (by omega) (by rw [Nat.min_eq_left (by omega)]; exact hr r h2)).2
  exact ⟨⟨(k 27 (by decide) (by decide)).trans a1, (k 28 (by decide) (by decide)).trans a2, (k 29 (by decide) (by decide)).trans a3⟩, (k 30 (by decide) (by decide)).trans a4, ⟨(k 31 (by decide) (by decide)).trans a5, (k 32 (by decide) (by decide)).trans a6, (k 33 (by decide) (by decide)).trans a7, (k 34 (by decide) (by decide)).trans a8⟩, (a.1 110 hi.1).trans a9, (a.1 111 hi.2).trans a10, a11⟩
theorem WR.val {S u : cS} {al v s f bg : Nat} (h : WR S al v s f bg) (a : AW [27, 28, 29] [] S u) (k : kK u 27 = v + 1 ∧ kK u 28 = v + 1 ∧ kK u 29 = v + 1) (hv : v + 1 ≤ bg) : WR u al (v + 1) s f bg := by
  obtain ⟨-, a4, ⟨a5, a6, a7, a8⟩, a9, a10, a11, a12, -, a14⟩ := h
  have k2 : ∀ r, r < 35 → r ∈ [30, 31, 32, 33, 34] → kK u r = kK S r := fun r h1 h2 => (a.2.1 r (by omega) (by rw [Nat.min_eq_left (by omega)]; revert r; decide)).2
  exact ⟨k, (k2 30 (by decide) (by decide)).trans a4, ⟨(k2 31 (by decide) (by decide)).trans a5, (k2 32 (by decide) (by decide)).trans a6, (k2 33 (by decide) (by decide)).trans a7, (k2 34 (by decide) (by decide)).trans a8⟩, (a.1 110 (by decide)).trans a9, (a.1 111 (by decide)).trans a10, a11, a12, hv, a14⟩
theorem WR.sgt {S u : cS} {al v s f bg : Nat} (h : WR S al v s f bg) (a : AW [31, 32, 33, 34] [] S u) (k : kK u 31 = s + 1 ∧ kK u 32 = s + 1 ∧ kK u 33 = s + 1 ∧ kK u 34 = s + 1) (hv : s + 1 ≤ bg) : WR u al v (s + 1) f bg := by
  obtain ⟨⟨a1, a2, a3⟩, a4, -, a9, a10, a11, a12, a13, -, a15⟩ := h
  have k2 : ∀ r, r < 35 → r ∈ [27, 28, 29, 30] → kK u r = kK S r := fun r h1 h2 => (a.2.1 r (by omega) (by rw [Nat.min_eq_left (by omega)]; revert r; decide)).2
  exact ⟨⟨(k2 27 (by decide) (by decide)).trans a1, (k2 28 (by decide) (by decide)).trans a2, (k2 29 (by decide) (by decide)).trans a3⟩, (k2 30 (by decide) (by decide)).trans a4, k, (a.1 110 (by decide)).trans a9, (a.1 111 (by decide)).trans a10, a11, a12, a13, hv, a15⟩
theorem WR.fld {S u : cS} {al v s f f1 bg : Nat} (h : WR S al v s f bg) (a : AW [30] [] S u) (k : kK u 30 = f1) (hv : f1 ≤ 6 * bg) : WR u al v s f1 bg := by
  obtain ⟨⟨a1, a2, a3⟩, -, ⟨a5, a6, a7, a8⟩, a9, a10, a11, a12, a13, a14, -⟩ := h
  have k2 : ∀ r, r < 35 → r ∈ [27, 28, 29, 31, 32, 33, 34] → kK u r = kK S r := fun r h1 h2 => (a.2.1 r (by omega) (by rw [Nat.min_eq_left (by omega)]; revert r; decide)).2
  exact ⟨⟨(k2 27 (by decide) (by decide)).trans a1, (k2 28 (by decide) (by decide)).trans a2, (k2 29 (by decide) (by decide)).trans a3⟩, k, ⟨(k2 31 (by decide) (by decide)).trans a5, (k2 32 (by decide) (by decide)).trans a6, (k2 33 (by decide) (by decide)).trans a7, (k2 34 (by decide) (by decide)).trans a8⟩, (a.1 110 (by decide)).trans a9, (a.1 111 (by decide)).trans a10, a11, a12, a13, a14, hv⟩
theorem WR.beg {S : cS} {al v s f bg : Nat} (h : WR S al v s f bg) (hb : bg < al) : WR (cO S 111 (nI (bg + 1))) al v s f (bg + 1) := by
  obtain ⟨a1, a4, a5, a9, a10, a11, a12, a13, a14, a15⟩ := h
  exact ⟨a1, a4, a5, (cO_n (by decide)).trans a9, cO_s, hb, a12, by omega, by omega, by omega⟩
theorem WR.plc {S : cS} {al v s f bg : Nat} {x : Int32} (h : WR S al v s f bg) : WR (cO S 112 x) al v s f bg := by
  obtain ⟨a1, a4, a5, a9, a10, a11⟩ := h
  exact ⟨a1, a4, a5, (cO_n (by decide)).trans a9, (cO_n (by decide)).trans a10, a11⟩
theorem WR.x {S : cS} {al v s f bg v0 s0 f0 b0 c : Nat} (h : WR S al v s f bg) (a : b0 ≤ bg ∧ v + b0 ≤ v0 + bg + c ∧ s + b0 ≤ s0 + bg + c ∧ f + 6 * b0 ≤ f0 + 6 * bg + 6 * c) : WX S al v0 s0 f0 b0 c := ⟨v, s, f, bg, h, a.1, a.2.1, a.2.2.1, a.2.2.2⟩
theorem WX.run {u : cS} {al v s f bg : Nat} (h : WX u al v s f (bg + 1) 1) : WX u al v s f bg 0 := by
  obtain ⟨v1, s1, f1, b1, w, x1, x2, x3, x4⟩ := h
  exact ⟨v1, s1, f1, b1, w, by omega, by omega, by omega, by omega⟩
theorem WX.tail {u : cS} {al v s f bg v0 s0 f0 b0 c : Nat} (h : WX u al v s f bg 0) (a : b0 ≤ bg ∧ v + b0 ≤ v0 + bg + c ∧ s + b0 ≤ s0 + bg + c ∧ f + 6 * b0 ≤ f0 + 6 * bg + 6 * c) : WX u al v0 s0 f0 b0 c := by
  obtain ⟨v1, s1, f1, b1, w, x1, x2, x3, x4⟩ := h
  exact ⟨v1, s1, f1, b1, w, by omega, by omega, by omega, by omega⟩
theorem WR.vlt {S : cS} {al v s f bg : Nat} (h : WR S al v s f bg) (hv : v + 1 ≤ bg) {r : Nat} (hk : kK S r = v) (hl : lim r = 301) : kK S r < lim r := by
  obtain ⟨a1, a4, a5, a9, a10, a11, a12, a13, a14, a15⟩ := h
  omega
theorem WR.slt {S : cS} {al v s f bg : Nat} (h : WR S al v s f bg) (hv : s + 1 ≤ bg) {r : Nat} (hk : kK S r = s) (hl : lim r = 301) : kK S r < lim r := by
  obtain ⟨a1, a4, a5, a9, a10, a11, a12, a13, a14, a15⟩ := h
  omega

set_option maxHeartbeats 4000000 in
set_option maxRecDepth 100000 in
/-- addValue -/
theorem w_addValue (l : Launch) (G : cG) (S : cS) (v9 : Nat) (x : Int32) (y : Int32) (z9 : Int32) (hC : CL S) (k0 : kK S 27 = v9) (k1 : kK S 28 = v9) (k2 : kK S 29 = v9) (hv : v9 < 301) (Hs : Heap) : Met l yX6_addValue (wC yX6_addValue cX6_addValue 4 (some .int)) (cRm S 3 103) (cPc G S Hs [.ref (ga G 5), .int x, .int y, .int z9]) (cQi G S Hs (fun v u => AW [27, 28, 29] [] S u ∧ (kK u 27 = v9 + 1 ∧ kK u 28 = v9 + 1 ∧ kK u 29 = v9 + 1))) (CC - PT S) (12 * (CC - PT S)) (cA G S Hs.size) := by
  refine Met.ofW (cc := cX6_addValue) (maxL := 4) (ret := (some .int)) (by decide) rfl ?_
  intro p e s m args below meth c s₁ B hml hv
  obtain ⟨rfl, hsz, hP, hK, hD0, -⟩ := hv
  have hx := B.exec
  have hb := B.bytes
  have hr := B.returns
  have htu : ∀ w ∈ CU, w.before _ s = true := fun w h => atoms_spec (ws := (wC yX6_addValue cX6_addValue 4 (some .int))) B.pre w (List.mem_cons_of_mem _ h)
  have hown : s.vm.findClass RX6 = some m.cls := findClass_of_methodNamed B.named
  have hlocks := B.notSynchronized
  subst hsz
  have hD : cD (cA G S s.heap.size) G S := cD_self hD0
  have hl := lv_entry ([.ref (ga G 5), .int x, .int y, .int z9]) (n := 4) (Nat.le_of_ble_eq_true rfl)
  rw [lg_entry_eq]
  generalize (lg_sl ([.ref (ga G 5), .int x, .int y, .int z9]) ++ List.replicate (4 - (lg_sl ([.ref (ga G 5), .int x, .int y, .int z9])).length) Slot.unset).toArray = ls at hl ⊢
  have hl : lv_has ls 4 [(0, .ref (ga G 5)), (1, .int x), (2, .int y), (3, .int z9)] := hl
  obtain ⟨H, hHe⟩ : ∃ H : Heap, H = s.heap := ⟨_, rfl⟩
  rw [← hHe] at hP
  have hS : va_S (cA G S s.heap.size) s.heap H [] := by rw [hHe]; exact va_S.rf
  have hh : HS S S := HS.rf
  have hpp : PT S ≤ PT S := Nat.le_refl _
  have hB9 := hC.1
  refine W.heq hHe ?_
  refine c_ent (S := S) ?_
  refine lv_aload_n hx hb dX6_addValue_0 rfl (lv_at hl 0 rfl) ?_
  refine va_get (D := gD G) (ci := 6) (v := .ref (kH S 27)) (C := RX6) (T := TX6) (N := 14) hx hb htu cu_in6 hown hK hP 5 cw_5 rfl 2 (by decide) (htu _ C_152) (fun _ h9 => h9) rfl dX6_addValue_1 ?_
  refine lv_iload_n hx hb dX6_addValue_4 rfl (lv_at hl 1 rfl) ?_
  have hC0 := hC
  refine c_cv (c_runV (As := [.int x]) (rest := []) (q0 := (2 * 27 + 13)) (ci := 0) ⟨hx, hb, hml, hown, htu⟩ (c_addA l G S 27 (lt35 (by decide)) hC (kH S 27) rfl x (show kK S 27 < lim 27 by rw [k0, lim_27]; omega) H) (cwV 1 htu hU_X6_82 rfl rfl rfl (by decide +kernel) ⟨Nat.le_of_ble_eq_true rfl, Nat.le_of_ble_eq_true rfl⟩) hP hK hD hC hpp (c_hd rfl (cw_row (lt35 (by decide)))) rfl rfl hl.1 rfl (lv_room (Nat.le_of_ble_eq_true rfl)) dX6_addValue_5) hS hD hh hpp (fun S_2 H locs hw_3 hP hD hS hC hh hs_4 hpp => ?_)
  try dsimp only at hw_3
  have aw_5 : AW [27] [] S S_2 := (by obtain ⟨_, _, _, h9, -, -⟩ := hw_3; rw [h9]; exact AW.u (by decide))
  have aw_5t : AW [27, 28, 29] [] S S_2 := AW.rf.tr (aw_5.mono (by decide) (by decide))
  have kk_6 : kK S_2 28 = v9 := (aw_5.2.1 28 (lt35 (by decide)) (by decide)).2.trans k1
  have kk_7 : kK S_2 29 = v9 := (aw_5.2.1 29 (lt35 (by decide)) (by decide)).2.trans k2
  obtain ⟨ad_8n, ad_8q, ad_8g, ad_8u, ad_81, ad_82⟩ := hw_3
  have kk_9 : kK S_2 27 = v9 + 1 := by rw [ad_8u]; exact uR_K.trans (congrArg (· + 1) k0)
  refine lv_aload_n hx hb dX6_addValue_8 rfl (lv_at hl 0 rfl) ?_
  refine va_get (D := gD G) (ci := 6) (v := .ref (kH S 28)) (C := RX6) (T := TX6) (N := 14) hx hb htu cu_in6 hown hK hP 5 cw_5 rfl 3 (by decide) (htu _ C_153) (fun _ h9 => h9) (c_hv (hh.2 28 (lt35 (by decide)))) dX6_addValue_9 ?_
  refine lv_iload_n hx hb dX6_addValue_12 rfl (lv_at hl 2 rfl) ?_
  have hC0 := hC
  refine c_cv (c_runV (As := [.int y]) (rest := []) (q0 := (2 * 28 + 13)) (ci := 0) ⟨hx, hb, hml, hown, htu⟩ (c_addA l G S_2 28 (lt35 (by decide)) hC (kH S 28) (hh.2 28 (lt35 (by decide))) y (show kK S_2 28 < lim 28 by rw [kk_6, lim_28]; omega) H) (cwV 1 htu hU_X6_82 rfl rfl rfl (by decide +kernel) ⟨Nat.le_of_ble_eq_true rfl, Nat.le_of_ble_eq_true rfl⟩) hP hK hD hC hpp (c_hd (hh.2 28 (lt35 (by decide))) (cw_row (lt35 (by decide)))) rfl rfl hl.1 rfl (lv_room (Nat.le_of_ble_eq_true rfl)) dX6_addValue_13) hS hD hh hpp (fun S_11 H locs hw_12 hP hD hS hC hh hs_13 hpp => ?_)
  try dsimp only at hw_12
  have aw_14 : AW [28] [] S_2 S_11 := (by obtain ⟨_, _, _, h9, -, -⟩ := hw_12; rw [h9]; exact AW.u (by decide))
  have aw_14t : AW [27, 28, 29] [] S S_11 := aw_5t.tr (aw_14.mono (by decide) (by decide))
  have kk_15 : kK S_11 29 = v9 := (aw_14.2.1 29 (lt35 (by decide)) (by decide)).2.trans kk_7
  have kk_16 : kK S_11 27 = v9 + 1 := (aw_14.2.1 27 (lt35 (by decide)) (by decide)).2.trans kk_9
  obtain ⟨ad_17n, ad_17q, ad_17g, ad_17u, ad_171, ad_172⟩ := hw_12
  have kk_18 : kK S_11 28 = v9 + 1 := by rw [ad_17u]; exact uR_K.trans (congrArg (· + 1) kk_6)
  refine lv_aload_n hx hb dX6_addValue_16 rfl (lv_at hl 0 rfl) ?_
  refine va_get (D := gD G) (ci := 6) (v := .ref (kH S 29)) (C := RX6) (T := TX6) (N := 14) hx hb htu cu_in6 hown hK hP 5 cw_5 rfl 4 (by decide) (htu _ C_154) (fun _ h9 => h9) (c_hv (hh.2 29 (lt35 (by decide)))) dX6_addValue_17 ?_
  refine lv_iload_n hx hb dX6_addValue_20 rfl (lv_at hl 3 rfl) ?_
  have hC0 := hC
  refine c_cv (c_runV (As := [.int z9]) (rest := []) (q0 := (2 * 29 + 13)) (ci := 0) ⟨hx, hb, hml, hown, htu⟩ (c_addA l G S_11 29 (lt35 (by decide)) hC (kH S 29) (hh.2 29 (lt35 (by decide))) z9 (show kK S_11 29 < lim 29 by rw [kk_15, lim_29]; omega) H) (cwV 1 htu hU_X6_82 rfl rfl rfl (by decide +kernel) ⟨Nat.le_of_ble_eq_true rfl, Nat.le_of_ble_eq_true rfl⟩) hP hK hD hC hpp (c_hd (hh.2 29 (lt35 (by decide))) (cw_row (lt35 (by decide)))) rfl rfl hl.1 rfl (lv_room (Nat.le_of_ble_eq_true rfl)) dX6_addValue_21) hS hD hh hpp (fun S_20 H locs hw_21 hP hD hS hC hh hs_22 hpp => ?_)
  try dsimp only at hw_21
  have aw_23 : AW [29] [] S_11 S_20 := (by obtain ⟨_, _, _, h9, -, -⟩ := hw_21; rw [h9]; exact AW.u (by decide))
  have aw_23t : AW [27, 28, 29] [] S S_20 := aw_14t.tr (aw_23.mono (by decide) (by decide))
  have kk_24 : kK S_20 27 = v9 + 1 := (aw_23.2.1 27 (lt35 (by decide)) (by decide)).2.trans kk_16
  have kk_25 : kK S_20 28 = v9 + 1 := (aw_23.2.1 28 (lt35 (by decide)) (by decide)).2.trans kk_18
  obtain ⟨ad_26n, ad_26q, ad_26g, ad_26u, ad_261, ad_262⟩ := hw_21
  have kk_27 : kK S_20 29 = v9 + 1 := by rw [ad_26u]; exact uR_K.trans (congrArg (· + 1) kk_15)
  refine lv_aload_n hx hb dX6_addValue_24 rfl (lv_at hl 0 rfl) ?_
  refine va_get (D := gD G) (ci := 6) (v := .ref (kH S 27)) (C := RX6) (T := TX6) (N := 14) hx hb htu cu_in6 hown hK hP 5 cw_5 rfl 2 (by decide) (htu _ C_152) (fun _ h9 => h9) (c_hv (hh.2 27 (lt35 (by decide)))) dX6_addValue_25 ?_
  refine va_get (D := gD G) (ci := 0) (v := .int (nI (v9 + 1))) (C := RX0) (T := TX0) (N := 2) hx hb htu cu_in0 hown hK hP (2 * 27 + 13) (c_hd (hh.2 27 (lt35 (by decide))) (cw_row (lt35 (by decide)))) rfl 1 (by decide) (htu _ C_556) (fun _ h9 => h9) (m_v (congrArg nI kk_24)) dX6_addValue_28 ?_
  refine lv_iconst (v := 1) hx hb dX6_addValue_31 (by decide) ?_
  refine lv_isub hx hb dX6_addValue_32 ?_
  refine m_top (y := nI v9) (nI_pred _) ?_
  exact c_iret (v := nI v9) hx hb hr hK hP hD hS hC hh hpp ⟨aw_23t, ⟨kk_24, kk_25, kk_27⟩⟩ dX6_addValue_33 hlocks

set_option maxHeartbeats 4000000 in
set_option maxRecDepth 100000 in
/-- addSight -/
theorem w_addSight (l : Launch) (G : cG) (S : cS) (v9 : Nat) (x : Int32) (y : Int32) (z9 : Int32) (w9 : Int32) (hC : CL S) (k0 : kK S 31 = v9) (k1 : kK S 32 = v9) (k2 : kK S 33 = v9) (k3 : kK S 34 = v9) (hv : v9 < 301) (Hs : Heap) : Met l yX6_addSight (wC yX6_addSight cX6_addSight 5 (some .int)) (cRm S 3 103) (cPc G S Hs [.ref (ga G 5), .int x, .int y, .int z9, .int w9]) (cQi G S Hs (fun v u => AW [31, 32, 33, 34] [] S u ∧ (kK u 31 = v9 + 1 ∧ kK u 32 = v9 + 1 ∧ kK u 33 = v9 + 1 ∧ kK u 34 = v9 + 1))) (CC - PT S) (12 * (CC - PT S)) (cA G S Hs.size) := by
  refine Met.ofW (cc := cX6_addSight) (maxL := 5) (ret := (some .int)) (by decide) rfl ?_
  intro p e s m args below meth c s₁ B hml hv
  obtain ⟨rfl, hsz, hP, hK, hD0, -⟩ := hv
  have hx := B.exec
  have hb := B.bytes
  have hr := B.returns
  have htu : ∀ w ∈ CU, w.before _ s = true := fun w h => atoms_spec (ws := (wC yX6_addSight cX6_addSight 5 (some .int))) B.pre w (List.mem_cons_of_mem _ h)
  have hown : s.vm.findClass RX6 = some m.cls := findClass_of_methodNamed B.named
  have hlocks := B.notSynchronized
  subst hsz
  have hD : cD (cA G S s.heap.size) G S := cD_self hD0
  have hl := lv_entry ([.ref (ga G 5), .int x, .int y, .int z9, .int w9]) (n := 5) (Nat.le_of_ble_eq_true rfl)
  rw [lg_entry_eq]
  generalize (lg_sl ([.ref (ga G 5), .int x, .int y, .int z9, .int w9]) ++ List.replicate (5 - (lg_sl ([.ref (ga G 5), .int x, .int y, .int z9, .int w9])).length) Slot.unset).toArray = ls at hl ⊢
  have hl : lv_has ls 5 [(0, .ref (ga G 5)), (1, .int x), (2, .int y), (3, .int z9), (4, .int w9)] := hl
  obtain ⟨H, hHe⟩ : ∃ H : Heap, H = s.heap := ⟨_, rfl⟩
  rw [← hHe] at hP
  have hS : va_S (cA G S s.heap.size) s.heap H [] := by rw [hHe]; exact va_S.rf
  have hh : HS S S := HS.rf
  have hpp : PT S ≤ PT S := Nat.le_refl _
  have hB9 := hC.1
  refine W.heq hHe ?_
  refine c_ent (S := S) ?_
  refine lv_aload_n hx hb dX6_addSight_0 rfl (lv_at hl 0 rfl) ?_
  refine va_get (D := gD G) (ci := 6) (v := .ref (kH S 31)) (C := RX6) (T := TX6) (N := 14) hx hb htu cu_in6 hown hK hP 5 cw_5 rfl 6 (by decide) (htu _ C_156) (fun _ h9 => h9) rfl dX6_addSight_1 ?_
  refine lv_iload_n hx hb dX6_addSight_4 rfl (lv_at hl 1 rfl) ?_
  have hC0 := hC
  refine c_cv (c_runV (As := [.int x]) (rest := []) (q0 := (2 * 31 + 13)) (ci := 0) ⟨hx, hb, hml, hown, htu⟩ (c_addA l G S 31 (lt35 (by decide)) hC (kH S 31) rfl x (show kK S 31 < lim 31 by rw [k0, lim_31]; omega) H) (cwV 1 htu hU_X6_82 rfl rfl rfl (by decide +kernel) ⟨Nat.le_of_ble_eq_true rfl, Nat.le_of_ble_eq_true rfl⟩) hP hK hD hC hpp (c_hd rfl (cw_row (lt35 (by decide)))) rfl rfl hl.1 rfl (lv_room (Nat.le_of_ble_eq_true rfl)) dX6_addSight_5) hS hD hh hpp (fun S_2 H locs hw_3 hP hD hS hC hh hs_4 hpp => ?_)
  try dsimp only at hw_3
  have aw_5 : AW [31] [] S S_2 := (by obtain ⟨_, _, _, h9, -, -⟩ := hw_3; rw [h9]; exact AW.u (by decide))
  have aw_5t : AW [31, 32, 33, 34] [] S S_2 := AW.rf.tr (aw_5.mono (by decide) (by decide))
  have kk_6 : kK S_2 32 = v9 := (aw_5.2.1 32 (lt35 (by decide)) (by decide)).2.trans k1
  have kk_7 : kK S_2 33 = v9 := (aw_5.2.1 33 (lt35 (by decide)) (by decide)).2.trans k2
  have kk_8 : kK S_2 34 = v9 := (aw_5.2.1 34 (lt35 (by decide)) (by decide)).2.trans k3
  obtain ⟨ad_9n, ad_9q, ad_9g, ad_9u, ad_91, ad_92⟩ := hw_3
  have kk_10 : kK S_2 31 = v9 + 1 := by rw [ad_9u]; exact uR_K.trans (congrArg (· + 1) k0)
  refine lv_aload_n hx hb dX6_addSight_8 rfl (lv_at hl 0 rfl) ?_
  refine va_get (D := gD G) (ci := 6) (v := .ref (kH S 32)) (C := RX6) (T := TX6) (N := 14) hx hb htu cu_in6 hown hK hP 5 cw_5 rfl 7 (by decide) (htu _ C_157) (fun _ h9 => h9) (c_hv (hh.2 32 (lt35 (by decide)))) dX6_addSight_9 ?_
  refine lv_iload_n hx hb dX6_addSight_12 rfl (lv_at hl 2 rfl) ?_
  have hC0 := hC
  refine c_cv (c_runV (As := [.int y]) (rest := []) (q0 := (2 * 32 + 13)) (ci := 0) ⟨hx, hb, hml, hown, htu⟩ (c_addA l G S_2 32 (lt35 (by decide)) hC (kH S 32) (hh.2 32 (lt35 (by decide))) y (show kK S_2 32 < lim 32 by rw [kk_6, lim_32]; omega) H) (cwV 1 htu hU_X6_82 rfl rfl rfl (by decide +kernel) ⟨Nat.le_of_ble_eq_true rfl, Nat.le_of_ble_eq_true rfl⟩) hP hK hD hC hpp (c_hd (hh.2 32 (lt35 (by decide))) (cw_row (lt35 (by decide)))) rfl rfl hl.1 rfl (lv_room (Nat.le_of_ble_eq_true rfl)) dX6_addSight_13) hS hD hh hpp (fun S_12 H locs hw_13 hP hD hS hC hh hs_14 hpp => ?_)
  try dsimp only at hw_13
  have aw_15 : AW [32] [] S_2 S_12 := (by obtain ⟨_, _, _, h9, -, -⟩ := hw_13; rw [h9]; exact AW.u (by decide))
  have aw_15t : AW [31, 32, 33, 34] [] S S_12 := aw_5t.tr (aw_15.mono (by decide) (by decide))
  have kk_16 : kK S_12 33 = v9 := (aw_15.2.1 33 (lt35 (by decide)) (by decide)).2.trans kk_7
  have kk_17 : kK S_12 34 = v9 := (aw_15.2.1 34 (lt35 (by decide)) (by decide)).2.trans kk_8
  have kk_18 : kK S_12 31 = v9 + 1 := (aw_15.2.1 31 (lt35 (by decide)) (by decide)).2.trans kk_10
  obtain ⟨ad_19n, ad_19q, ad_19g, ad_19u, ad_191, ad_192⟩ := hw_13
  have kk_20 : kK S_12 32 = v9 + 1 := by rw [ad_19u]; exact uR_K.trans (congrArg (· + 1) kk_6)
  refine lv_aload_n hx hb dX6_addSight_16 rfl (lv_at hl 0 rfl) ?_
  refine va_get (D := gD G) (ci := 6) (v := .ref (kH S 33)) (C := RX6) (T := TX6) (N := 14) hx hb htu cu_in6 hown hK hP 5 cw_5 rfl 8 (by decide) (htu _ C_158) (fun _ h9 => h9) (c_hv (hh.2 33 (lt35 (by decide)))) dX6_addSight_17 ?_
  refine lv_iload_n hx hb dX6_addSight_20 rfl (lv_at hl 3 rfl) ?_
  have hC0 := hC
  refine c_cv (c_runV (As := [.int z9]) (rest := []) (q0 := (2 * 33 + 13)) (ci := 0) ⟨hx, hb, hml, hown, htu⟩ (c_addA l G S_12 33 (lt35 (by decide)) hC (kH S 33) (hh.2 33 (lt35 (by decide))) z9 (show kK S_12 33 < lim 33 by rw [kk_16, lim_33]; omega) H) (cwV 1 htu hU_X6_82 rfl rfl rfl (by decide +kernel) ⟨Nat.le_of_ble_eq_true rfl, Nat.le_of_ble_eq_true rfl⟩) hP hK hD hC hpp (c_hd (hh.2 33 (lt35 (by decide))) (cw_row (lt35 (by decide)))) rfl rfl hl.1 rfl (lv_room (Nat.le_of_ble_eq_true rfl)) dX6_addSight_21) hS hD hh hpp (fun S_22 H locs hw_23 hP hD hS hC hh hs_24 hpp => ?_)
  try dsimp only at hw_23
  have aw_25 : AW [33] [] S_12 S_22 := (by obtain ⟨_, _, _, h9, -, -⟩ := hw_23; rw [h9]; exact AW.u (by decide))
  have aw_25t : AW [31, 32, 33, 34] [] S S_22 := aw_15t.tr (aw_25.mono (by decide) (by decide))
  have kk_26 : kK S_22 34 = v9 := (aw_25.2.1 34 (lt35 (by decide)) (by decide)).2.trans kk_17
  have kk_27 : kK S_22 31 = v9 + 1 := (aw_25.2.1 31 (lt35 (by decide)) (by decide)).2.trans kk_18
  have kk_28 : kK S_22 32 = v9 + 1 := (aw_25.2.1 32 (lt35 (by decide)) (by decide)).2.trans kk_20
  obtain ⟨ad_29n, ad_29q, ad_29g, ad_29u, ad_291, ad_292⟩ := hw_23
  have kk_30 : kK S_22 33 = v9 + 1 := by rw [ad_29u]; exact uR_K.trans (congrArg (· + 1) kk_16)
  refine lv_aload_n hx hb dX6_addSight_24 rfl (lv_at hl 0 rfl) ?_
  refine va_get (D := gD G) (ci := 6) (v := .ref (kH S 34)) (C := RX6) (T := TX6) (N := 14) hx hb htu cu_in6 hown hK hP 5 cw_5 rfl 9 (by decide) (htu _ C_159) (fun _ h9 => h9) (c_hv (hh.2 34 (lt35 (by decide)))) dX6_addSight_25 ?_
  refine lv_iload hx hb dX6_addSight_28 (lv_at hl 4 rfl) ?_
  have hC0 := hC
  refine c_cv (c_runV (As := [.int w9]) (rest := []) (q0 := (2 * 34 + 13)) (ci := 0) ⟨hx, hb, hml, hown, htu⟩ (c_addA l G S_22 34 (lt35 (by decide)) hC (kH S 34) (hh.2 34 (lt35 (by decide))) w9 (show kK S_22 34 < lim 34 by rw [kk_26, lim_34]; omega) H) (cwV 1 htu hU_X6_82 rfl rfl rfl (by decide +kernel) ⟨Nat.le_of_ble_eq_true rfl, Nat.le_of_ble_eq_true rfl⟩) hP hK hD hC hpp (c_hd (hh.2 34 (lt35 (by decide))) (cw_row (lt35 (by decide)))) rfl rfl hl.1 rfl (lv_room (Nat.le_of_ble_eq_true rfl)) dX6_addSight_30) hS hD hh hpp (fun S_32 H locs hw_33 hP hD hS hC hh hs_34 hpp => ?_)
  try dsimp only at hw_33
  have aw_35 : AW [34] [] S_22 S_32 := (by obtain ⟨_, _, _, h9, -, -⟩ := hw_33; rw [h9]; exact AW.u (by decide))
  have aw_35t : AW [31, 32, 33, 34] [] S S_32 := aw_25t.tr (aw_35.mono (by decide) (by decide))
  have kk_36 : kK S_32 31 = v9 + 1 := (aw_35.2.1 31 (lt35 (by decide)) (by decide)).2.trans kk_27
  have kk_37 : kK S_32 32 = v9 + 1 := (aw_35.2.1 32 (lt35 (by decide)) (by decide)).2.trans kk_28
  have kk_38 : kK S_32 33 = v9 + 1 := (aw_35.2.1 33 (lt35 (by decide)) (by decide)).2.trans kk_30
  obtain ⟨ad_39n, ad_39q, ad_39g, ad_39u, ad_391, ad_392⟩ := hw_33
  have kk_40 : kK S_32 34 = v9 + 1 := by rw [ad_39u]; exact uR_K.trans (congrArg (· + 1) kk_26)
  refine lv_aload_n hx hb dX6_addSight_33 rfl (lv_at hl 0 rfl) ?_
  refine va_get (D := gD G) (ci := 6) (v := .ref (kH S 31)) (C := RX6) (T := TX6) (N := 14) hx hb htu cu_in6 hown hK hP 5 cw_5 rfl 6 (by decide) (htu _ C_156) (fun _ h9 => h9) (c_hv (hh.2 31 (lt35 (by decide)))) dX6_addSight_34 ?_
  refine va_get (D := gD G) (ci := 0) (v := .int (nI (v9 + 1))) (C := RX0) (T := TX0) (N := 2) hx hb htu cu_in0 hown hK hP (2 * 31 + 13) (c_hd (hh.2 31 (lt35 (by decide))) (cw_row (lt35 (by decide)))) rfl 1 (by decide) (htu _ C_556) (fun _ h9 => h9) (m_v (congrArg nI kk_36)) dX6_addSight_37 ?_
  refine lv_iconst (v := 1) hx hb dX6_addSight_40 (by decide) ?_
  refine lv_isub hx hb dX6_addSight_41 ?_
  refine m_top (y := nI v9) (nI_pred _) ?_
  exact c_iret (v := nI v9) hx hb hr hK hP hD hS hC hh hpp ⟨aw_35t, ⟨kk_36, kk_37, kk_38, kk_40⟩⟩ dX6_addSight_42 hlocks

set_option maxHeartbeats 4000000 in
set_option maxRecDepth 100000 in
/-- stuckAt -/
theorem w_stuckAt (l : Launch) (G : cG) (S : cS) (x : Int32) (hC : CL S) (Hs : Heap) : Met l yX6_stuckAt (wC yX6_stuckAt cX6_stuckAt 2 (some .int)) (cRm S 0 0) (cPc G S Hs [.ref (ga G 5), .int x]) (cQi G S Hs (fun v u => AW [] [112] S u ∧ (v = -3))) (CC - PT S) (12 * (CC - PT S)) (cA G S Hs.size) := by
  refine Met.ofW (cc := cX6_stuckAt) (maxL := 2) (ret := (some .int)) (by decide) rfl ?_
  intro p e s m args below meth c s₁ B hml hv
  obtain ⟨rfl, hsz, hP, hK, hD0, -⟩ := hv
  have hx := B.exec
  have hb := B.bytes
  have hr := B.returns
  have htu : ∀ w ∈ CU, w.before _ s = true := fun w h => atoms_spec (ws := (wC yX6_stuckAt cX6_stuckAt 2 (some .int))) B.pre w (List.mem_cons_of_mem _ h)
  have hown : s.vm.findClass RX6 = some m.cls := findClass_of_methodNamed B.named
  have hlocks := B.notSynchronized
  subst hsz
  have hD : cD (cA G S s.heap.size) G S := cD_self hD0
  have hl := lv_entry ([.ref (ga G 5), .int x]) (n := 2) (Nat.le_of_ble_eq_true rfl)
  rw [lg_entry_eq]
  generalize (lg_sl ([.ref (ga G 5), .int x]) ++ List.replicate (2 - (lg_sl ([.ref (ga G 5), .int x])).length) Slot.unset).toArray = ls at hl ⊢
  have hl : lv_has ls 2 [(0, .ref (ga G 5)), (1, .int x)] := hl
  obtain ⟨H, hHe⟩ : ∃ H : Heap, H = s.heap := ⟨_, rfl⟩
  rw [← hHe] at hP
  have hS : va_S (cA G S s.heap.size) s.heap H [] := by rw [hHe]; exact va_S.rf
  have hh : HS S S := HS.rf
  have hpp : PT S ≤ PT S := Nat.le_refl _
  have hB9 := hC.1
  refine W.heq hHe ?_
  refine c_ent (S := S) ?_
  refine lv_aload_n hx hb dX6_stuckAt_0 rfl (lv_at hl 0 rfl) ?_
  refine lv_iload_n hx hb dX6_stuckAt_1 rfl (lv_at hl 1 rfl) ?_
  refine c_put5_12 (x := x) hx hb htu hown hK hP hD hS (htu _ C_160) dX6_stuckAt_2 (fun H locs hP hD hS => ?_)
  have S_1h : HS S (cO S 112 x) := hh
  have S_1c : CL (cO S 112 x) := hC
  have S_1p : PT S ≤ PT (cO S 112 x) := hpp
  refine c_eq (S1 := S) (S2 := cO S 112 x) rfl ?_
  have S_1w : AW [] [112] S (cO S 112 x) := (AW.o AW.rf (by decide))
  have hh := S_1h
  have hC := S_1c
  have hpp := S_1p
  refine lv_bipush (v := (-3)) hx hb dX6_stuckAt_5 (by decide) ?_
  exact c_iret (v := (-3)) hx hb hr hK hP hD hS hC hh hpp ⟨S_1w, rfl⟩ dX6_stuckAt_7 hlocks

set_option maxHeartbeats 4000000 in
set_option maxRecDepth 100000 in
/-- seenBy -/
theorem w_seenBy (l : Launch) (G : cG) (S : cS) (x : Int32) (y : Int32) (hC : CL S) (Hs : Heap) : Met l yX6_seenBy (wC yX6_seenBy cX6_seenBy 5 (some .int)) (cRm S 1 21) (cPc G S Hs [.ref (ga G 5), .int x, .int y]) (cQi G S Hs (fun v u => AW [] [] S u ∧ (u = S))) (CC - PT S) (12 * (CC - PT S)) (cA G S Hs.size) := by
  refine Met.ofW (cc := cX6_seenBy) (maxL := 5) (ret := (some .int)) (by decide) rfl ?_
  intro p e s m args below meth c s₁ B hml hv
  obtain ⟨rfl, hsz, hP, hK, hD0, -⟩ := hv
  have hx := B.exec
  have hb := B.bytes
  have hr := B.returns
  have htu : ∀ w ∈ CU, w.before _ s = true := fun w h => atoms_spec (ws := (wC yX6_seenBy cX6_seenBy 5 (some .int))) B.pre w (List.mem_cons_of_mem _ h)
  have hown : s.vm.findClass RX6 = some m.cls := findClass_of_methodNamed B.named
  have hlocks := B.notSynchronized
  subst hsz
  have hD : cD (cA G S s.heap.size) G S := cD_self hD0
  have hl := lv_entry ([.ref (ga G 5), .int x, .int y]) (n := 5) (Nat.le_of_ble_eq_true rfl)
  rw [lg_entry_eq]
  generalize (lg_sl ([.ref (ga G 5), .int x, .int y]) ++ List.replicate (5 - (lg_sl ([.ref (ga G 5), .int x, .int y])).length) Slot.unset).toArray = ls at hl ⊢
  have hl : lv_has ls 5 [(0, .ref (ga G 5)), (1, .int x), (2, .int y)] := hl
  obtain ⟨H, hHe⟩ : ∃ H : Heap, H = s.heap := ⟨_, rfl⟩
  rw [← hHe] at hP
  have hS : va_S (cA G S s.heap.size) s.heap H [] := by rw [hHe]; exact va_S.rf
  have hh : HS S S := HS.rf
  have hpp : PT S ≤ PT S := Nat.le_refl _
  have hB9 := hC.1
  refine W.heq hHe ?_
  refine c_ent (S := S) ?_
  refine lv_iload_n hx hb dX6_seenBy_0 rfl (lv_at hl 2 rfl) ?_
  refine lv_istore_n (lv' := [(3, .int y), (0, .ref (ga G 5)), (1, .int x), (2, .int y)]) hx hb dX6_seenBy_1 rfl hl (by decide) rfl (fun ls hl => ?_)
  refine lv_iconst (v := 0) hx hb dX6_seenBy_2 (by decide) ?_
  refine lv_istore (lv' := [(4, .int 0), (3, .int y), (0, .ref (ga G 5)), (1, .int x), (2, .int y)]) hx hb dX6_seenBy_3 hl (by decide) rfl (fun ls hl => ?_)
  refine w_loop (fun j H locs k sl g => ∃ (sn : Int32) (i : Nat) (ls : Array Slot), i + j = 120 ∧ k = PT S - PT S ∧ sl = 12 * (PT S - PT S) ∧ cP G S H ∧ cD (cA G S s.heap.size) G S ∧ va_S (cA G S s.heap.size) s.heap H locs ∧ lv_has ls 5 [(0, .ref (ga G 5)), (1, .int x), (2, .int y), (3, .int sn), (4, .int (nI i))] ∧ g = F0 m 5 ls []) ?_ ?_ 120 _ _ _ _ _ ⟨y, 0, ls, by omega, rfl, rfl, hP, hD, hS, lv_sub hl [2, 3, 4, 1, 0] rfl, rfl⟩
  · intro H locs k sl g hI
    obtain ⟨sn, i, ls, hp0, rfl, rfl, hP, hD, hS, hl, rfl⟩ := hI
    refine lv_iload hx hb dX6_seenBy_5 (lv_at hl 4 rfl) ?_
    refine lv_bipush (v := 120) hx hb dX6_seenBy_7 (by decide) ?_
    refine lv_icmp_ge (tgt := 47) hx hb dX6_seenBy_9 (by decide) (fun c_1 => ?_) (fun c_1 => absurd ((nI_leI (a := 120) (b := i) (by omega) (by omega)).mpr (by omega)) c_1)
    refine lv_bipush (v := (-9)) hx hb dX6_seenBy_47 (by decide) ?_
    exact c_iret (v := (-9)) hx hb hr hK hP hD hS hC hh hpp ⟨AW.rf, rfl⟩ dX6_seenBy_49 hlocks
  · intro j ih9 H locs k sl g hI
    obtain ⟨sn, i, ls, hp0, rfl, rfl, hP, hD, hS, hl, rfl⟩ := hI
    refine lv_iload hx hb dX6_seenBy_5 (lv_at hl 4 rfl) ?_
    refine lv_bipush (v := 120) hx hb dX6_seenBy_7 (by decide) ?_
    refine lv_icmp_ge (tgt := 47) hx hb dX6_seenBy_9 (by decide) (fun c_2 => absurd c_2 (fun h => by have h2 := (nI_leI (a := 120) (b := i) (by omega) (by omega)).mp h; omega)) (fun c_2 => ?_)
    refine lv_iload_n hx hb dX6_seenBy_12 rfl (lv_at hl 3 rfl) ?_
    refine lv_bipush (v := (-9)) hx hb dX6_seenBy_13 (by decide) ?_
    refine lv_icmp_eq (tgt := 47) hx hb dX6_seenBy_15 (by decide) (fun c_3 => ?_) (fun c_3 => ?_)
    · skip
      refine lv_bipush (v := (-9)) hx hb dX6_seenBy_47 (by decide) ?_
      exact c_iret (v := (-9)) hx hb hr hK hP hD hS hC hh hpp ⟨AW.rf, rfl⟩ dX6_seenBy_49 hlocks
    · skip
      refine lv_aload_n hx hb dX6_seenBy_18 rfl (lv_at hl 0 rfl) ?_
      refine va_get (D := gD G) (ci := 6) (v := .ref (kH S 31)) (C := RX6) (T := TX6) (N := 14) hx hb htu cu_in6 hown hK hP 5 cw_5 rfl 6 (by decide) (htu _ C_156) (fun _ h9 => h9) rfl dX6_seenBy_19 ?_
      refine lv_iload_n hx hb dX6_seenBy_22 rfl (lv_at hl 3 rfl) ?_
      have hC0 := hC
      refine c_ci (c_runV (As := [.int sn]) (rest := []) (q0 := (2 * 31 + 13)) (ci := 0) ⟨hx, hb, hml, hown, htu⟩ (c_getA l G S 31 (lt35 (by decide)) hC (kH S 31) rfl sn H) (cwV 1 htu hU_X6_131 rfl rfl rfl (by decide +kernel) ⟨Nat.le_of_ble_eq_true rfl, Nat.le_of_ble_eq_true rfl⟩) hP hK hD hC hpp (c_hd rfl (cw_row (lt35 (by decide)))) rfl rfl hl.1 rfl (lv_room (Nat.le_of_ble_eq_true rfl)) dX6_seenBy_23) hS hD hh hpp (fun r_4 S_5 H locs hw_6 hP hD hS hC hh hs_7 hpp => ?_)
      obtain ⟨hu9, hw_6⟩ := hw_6
      have hu9 := hu9.symm
      subst hu9
      refine lv_iload_n hx hb dX6_seenBy_26 rfl (lv_at hl 1 rfl) ?_
      refine lv_icmp_ne (tgt := 32) hx hb dX6_seenBy_27 (by decide) (fun c_8 => ?_) (fun c_8 => ?_)
      · skip
        refine lv_aload_n hx hb dX6_seenBy_32 rfl (lv_at hl 0 rfl) ?_
        refine va_get (D := gD G) (ci := 6) (v := .ref (kH S 34)) (C := RX6) (T := TX6) (N := 14) hx hb htu cu_in6 hown hK hP 5 cw_5 rfl 9 (by decide) (htu _ C_159) (fun _ h9 => h9) rfl dX6_seenBy_33 ?_
        refine lv_iload_n hx hb dX6_seenBy_36 rfl (lv_at hl 3 rfl) ?_
        have hC0 := hC
        refine c_ci (c_runV (As := [.int sn]) (rest := []) (q0 := (2 * 34 + 13)) (ci := 0) ⟨hx, hb, hml, hown, htu⟩ (c_getA l G S 34 (lt35 (by decide)) hC (kH S 34) rfl sn H) (cwV 1 htu hU_X6_131 rfl rfl rfl (by decide +kernel) ⟨Nat.le_of_ble_eq_true rfl, Nat.le_of_ble_eq_true rfl⟩) hP hK hD hC hpp (c_hd rfl (cw_row (lt35 (by decide)))) rfl rfl hl.1 rfl (lv_room (Nat.le_of_ble_eq_true rfl)) dX6_seenBy_37) hS hD hh hpp (fun r_9 S_10 H locs hw_11 hP hD hS hC hh hs_12 hpp => ?_)
        obtain ⟨hu9, hw_11⟩ := hw_11
        have hu9 := hu9.symm
        subst hu9
        refine lv_istore_n (lv' := [(3, .int r_9), (0, .ref (ga G 5)), (1, .int x), (2, .int y), (4, .int (nI i))]) hx hb dX6_seenBy_40 rfl hl (by decide) rfl (fun ls hl => ?_)
        refine lv_iinc (v := nI (i + 1)) (lv' := [(4, .int (nI (i + 1))), (3, .int r_9), (0, .ref (ga G 5)), (1, .int x), (2, .int y)]) hx hb dX6_seenBy_41 hl (k := 4) rfl (nI_1 i) (by decide) rfl (fun ls hl => ?_)
        refine lv_goto (tgt := 5) hx hb dX6_seenBy_44 (by decide) ?_
        exact ih9 _ _ _ _ _ ⟨r_9, i + 1, ls, by omega, rfl, rfl, hP, hD, hS, lv_sub hl [2, 3, 4, 1, 0] rfl, rfl⟩
      · skip
        refine lv_iload_n hx hb dX6_seenBy_30 rfl (lv_at hl 3 rfl) ?_
        exact c_iret (v := sn) hx hb hr hK hP hD hS hC hh hpp ⟨AW.rf, rfl⟩ dX6_seenBy_31 hlocks

