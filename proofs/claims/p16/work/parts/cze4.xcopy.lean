def xCopiedAt (fu : Nat) : Prop := ∀ (l : Launch) (G : cG) (S : cS) (T : Nat) (V : Nat) (X : Nat) (Y : Nat) (Z : Nat) (K : Nat) (g : Nat) (dp : Nat) (wy : Nat) (z : aS) (t9 : Nat) (ab : Nat) (lv : Nat) (tm : Nat) (hC : CL S) (hY : TY S T V V X Y Z) (hBD : ∀ j, j < 2 * V → kK S (35 + j) ≤ K + V) (hKK : K ≤ 1501) (h15 : kK S 15 = 0) (hg : (wy = 2 ∧ g = 0) ∨ (wy ≠ 2 ∧ g = 1)) (hwy : wy < 3) (hdp : dp + fu = 61) (hY2 : Y + 6 * fu ≤ 900) (h8 : S.1 8 = nI tm) (h9 : S.1 9 = nI ab) (h10 : S.1 10 = nI lv) (htm : tm < 2 ^ 30) (hlv : lv ≤ 100) (hab : ab ≤ 100) (hz : KT S z) (hm : KM S z tm) (hkq : KQ S z) (h0 : sto z = 0) (ht : t9 < nT z) (Hs : Heap), Met l yX5_copied (wC yX5_copied cX5_copied 12 (some .int)) (cRm S (fu + 4) (42 * fu + 140)) (cPc G S Hs [.ref (ga G 4), .int (nI t9), .int (nI wy), .int (nI dp)]) (cQi G S Hs (fun v u => AW [6, 7, 8, 9, 16, 14, 10, 11, 12, 13, 25, 26, 35] [] S u ∧ (CX S u T V Y Z K g fu v ∧ XE S u Y tm (cp fu z t9 wy ab lv) v))) (CC - PT S) (12 * (CC - PT S)) (cA G S Hs.size)

set_option maxHeartbeats 4000000 in
set_option maxRecDepth 100000 in
/-- copied, too deep -/
theorem x_copied_0 (l : Launch) (G : cG) (S : cS) (T : Nat) (V : Nat) (X : Nat) (Y : Nat) (Z : Nat) (K : Nat) (g : Nat) (dp : Nat) (wy : Nat) (z : aS) (t9 : Nat) (ab : Nat) (lv : Nat) (tm : Nat) (hC : CL S) (hY : TY S T V V X Y Z) (hBD : ∀ j, j < 2 * V → kK S (35 + j) ≤ K + V) (hKK : K ≤ 1501) (h15 : kK S 15 = 0) (hg : (wy = 2 ∧ g = 0) ∨ (wy ≠ 2 ∧ g = 1)) (hwy : wy < 3) (hdp : dp + 0 = 61) (hY2 : Y + 6 * 0 ≤ 900) (h8 : S.1 8 = nI tm) (h9 : S.1 9 = nI ab) (h10 : S.1 10 = nI lv) (htm : tm < 2 ^ 30) (hlv : lv ≤ 100) (hab : ab ≤ 100) (hz : KT S z) (hm : KM S z tm) (hkq : KQ S z) (h0 : sto z = 0) (ht : t9 < nT z) (Hs : Heap) : Met l yX5_copied (wC yX5_copied cX5_copied 12 (some .int)) (cRm S (0 + 4) (42 * 0 + 140)) (cPc G S Hs [.ref (ga G 4), .int (nI t9), .int (nI wy), .int (nI dp)]) (cQi G S Hs (fun v u => AW [6, 7, 8, 9, 16, 14, 10, 11, 12, 13, 25, 26, 35] [] S u ∧ (CX S u T V Y Z K g 0 v ∧ XE S u Y tm (cp 0 z t9 wy ab lv) v))) (CC - PT S) (12 * (CC - PT S)) (cA G S Hs.size) := by
  refine Met.ofW (cc := cX5_copied) (maxL := 12) (ret := (some .int)) (by decide) rfl ?_
  intro p e s m args below meth c s₁ B hml hv
  obtain ⟨rfl, hsz, hP, hK, hD0, -⟩ := hv
  have hx := B.exec
  have hb := B.bytes
  have hr := B.returns
  have htu : ∀ w ∈ CU, w.before _ s = true := fun w h => atoms_spec (ws := (wC yX5_copied cX5_copied 12 (some .int))) B.pre w (List.mem_cons_of_mem _ h)
  have hown : s.vm.findClass RX5 = some m.cls := findClass_of_methodNamed B.named
  have hlocks := B.notSynchronized
  subst hsz
  have hD : cD (cA G S s.heap.size) G S := cD_self hD0
  have hl := lv_entry ([.ref (ga G 4), .int (nI t9), .int (nI wy), .int (nI dp)]) (n := 12) (Nat.le_of_ble_eq_true rfl)
  rw [lg_entry_eq]
  generalize (lg_sl ([.ref (ga G 4), .int (nI t9), .int (nI wy), .int (nI dp)]) ++ List.replicate (12 - (lg_sl ([.ref (ga G 4), .int (nI t9), .int (nI wy), .int (nI dp)])).length) Slot.unset).toArray = ls at hl ⊢
  have hl : lv_has ls 12 [(0, .ref (ga G 4)), (1, .int (nI t9)), (2, .int (nI wy)), (3, .int (nI dp))] := hl
  obtain ⟨H, hHe⟩ : ∃ H : Heap, H = s.heap := ⟨_, rfl⟩
  rw [← hHe] at hP
  have hS : va_S (cA G S s.heap.size) s.heap H [] := by rw [hHe]; exact va_S.rf
  have hh : HS S S := HS.rf
  have hpp : PT S ≤ PT S := Nat.le_refl _
  have hB9 := hC.1
  refine W.heq hHe ?_
  refine c_ent (S := S) ?_
  refine lv_iload_n hx hb dX5_copied_0 rfl (lv_at hl 3 rfl) ?_
  refine lv_bipush (v := 60) hx hb dX5_copied_1 (by decide) ?_
  refine lv_icmp_le (tgt := 9) hx hb dX5_copied_3 (by decide) (fun c_1 => absurd c_1 (fun h => by have h2 := (nI_leI (a := dp) (b := 60) (by omega) (by omega)).mp h; omega)) (fun c_1 => ?_)
  refine lv_bipush (v := (-6)) hx hb dX5_copied_6 (by decide) ?_
  exact c_iret (v := (-6)) hx hb hr hK hP hD hS hC hh hpp ⟨AW.rf, ⟨⟨T, V, X, Y, CR.rf hY hBD, Nat.le_refl _, Nat.le_add_right _ _, fun _ => rfl⟩, XE.full hz hm hkq (fun _ _ => ⟨rfl, rfl⟩) h0 rfl⟩⟩ dX5_copied_8 hlocks

