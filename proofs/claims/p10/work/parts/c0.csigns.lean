theorem dX1_clear_0 : decode cX1_clear 0 = .ok (.aload_n 0, 1) := by decide +kernel
theorem dX1_clear_1 : decode cX1_clear 1 = .ok (.iconst 0, 1) := by decide +kernel
theorem dX1_clear_2 : decode cX1_clear 2 = .ok (.putfield 21, 3) := by decide +kernel
theorem dX1_clear_5 : decode cX1_clear 5 = .ok (.return_, 1) := by decide +kernel
theorem dX1_isFull_0 : decode cX1_isFull 0 = .ok (.aload_n 0, 1) := by decide +kernel
theorem dX1_isFull_1 : decode cX1_isFull 1 = .ok (.getfield 21, 3) := by decide +kernel
theorem dX1_isFull_4 : decode cX1_isFull 4 = .ok (.aload_n 0, 1) := by decide +kernel
theorem dX1_isFull_5 : decode cX1_isFull 5 = .ok (.getfield 15, 3) := by decide +kernel
theorem dX1_isFull_8 : decode cX1_isFull 8 = .ok (.arraylength, 1) := by decide +kernel
theorem dX1_isFull_9 : decode cX1_isFull 9 = .ok (.if_icmp .lt 7, 3) := by decide +kernel
theorem dX1_isFull_16 : decode cX1_isFull 16 = .ok (.iconst 0, 1) := by decide +kernel
theorem dX1_isFull_17 : decode cX1_isFull 17 = .ok (.ireturn, 1) := by decide +kernel
theorem dX1_isFull_12 : decode cX1_isFull 12 = .ok (.iconst 1, 1) := by decide +kernel
theorem dX1_isFull_13 : decode cX1_isFull 13 = .ok (.goto 4, 3) := by decide +kernel
theorem dX1_put_0 : decode cX1_put 0 = .ok (.aload_n 0, 1) := by decide +kernel
theorem dX1_put_1 : decode cX1_put 1 = .ok (.getfield 21, 3) := by decide +kernel
theorem dX1_put_4 : decode cX1_put 4 = .ok (.aload_n 0, 1) := by decide +kernel
theorem dX1_put_5 : decode cX1_put 5 = .ok (.getfield 15, 3) := by decide +kernel
theorem dX1_put_8 : decode cX1_put 8 = .ok (.arraylength, 1) := by decide +kernel
theorem dX1_put_9 : decode cX1_put 9 = .ok (.if_icmp .lt 4, 3) := by decide +kernel
theorem dX1_put_13 : decode cX1_put 13 = .ok (.aload_n 0, 1) := by decide +kernel
theorem dX1_put_14 : decode cX1_put 14 = .ok (.getfield 15, 3) := by decide +kernel
theorem dX1_put_17 : decode cX1_put 17 = .ok (.aload_n 0, 1) := by decide +kernel
theorem dX1_put_18 : decode cX1_put 18 = .ok (.getfield 21, 3) := by decide +kernel
theorem dX1_put_21 : decode cX1_put 21 = .ok (.iload_n 1, 1) := by decide +kernel
theorem dX1_put_22 : decode cX1_put 22 = .ok (.i2b, 1) := by decide +kernel
theorem dX1_put_23 : decode cX1_put 23 = .ok (.bastore, 1) := by decide +kernel
theorem dX1_put_24 : decode cX1_put 24 = .ok (.aload_n 0, 1) := by decide +kernel
theorem dX1_put_25 : decode cX1_put 25 = .ok (.dup, 1) := by decide +kernel
theorem dX1_put_26 : decode cX1_put 26 = .ok (.getfield 21, 3) := by decide +kernel
theorem dX1_put_29 : decode cX1_put 29 = .ok (.iconst 1, 1) := by decide +kernel
theorem dX1_put_30 : decode cX1_put 30 = .ok (.iadd, 1) := by decide +kernel
theorem dX1_put_31 : decode cX1_put 31 = .ok (.putfield 21, 3) := by decide +kernel
theorem dX1_put_34 : decode cX1_put 34 = .ok (.return_, 1) := by decide +kernel
theorem dX1_put_12 : decode cX1_put 12 = .ok (.return_, 1) := by decide +kernel
theorem dX1_putLetter_0 : decode cX1_putLetter 0 = .ok (.aload_n 0, 1) := by decide +kernel
theorem dX1_putLetter_1 : decode cX1_putLetter 1 = .ok (.bipush 97, 2) := by decide +kernel
theorem dX1_putLetter_3 : decode cX1_putLetter 3 = .ok (.iload_n 1, 1) := by decide +kernel
theorem dX1_putLetter_4 : decode cX1_putLetter 4 = .ok (.iadd, 1) := by decide +kernel
theorem dX1_putLetter_5 : decode cX1_putLetter 5 = .ok (.i2c, 1) := by decide +kernel
theorem dX1_putLetter_6 : decode cX1_putLetter 6 = .ok (.invokevirtual 25, 3) := by decide +kernel
theorem dX1_putLetter_9 : decode cX1_putLetter 9 = .ok (.return_, 1) := by decide +kernel
theorem dX1_putFigures_0 : decode cX1_putFigures 0 = .ok (.iload_n 1, 1) := by decide +kernel
theorem dX1_putFigures_1 : decode cX1_putFigures 1 = .ok (.i2l, 1) := by decide +kernel
theorem dX1_putFigures_2 : decode cX1_putFigures 2 = .ok (.lstore_n 2, 1) := by decide +kernel
theorem dX1_putFigures_3 : decode cX1_putFigures 3 = .ok (.lload_n 2, 1) := by decide +kernel
theorem dX1_putFigures_4 : decode cX1_putFigures 4 = .ok (.lconst 0, 1) := by decide +kernel
theorem dX1_putFigures_5 : decode cX1_putFigures 5 = .ok (.lcmp, 1) := by decide +kernel
theorem dX1_putFigures_6 : decode cX1_putFigures 6 = .ok (.ifCond .ge 12, 3) := by decide +kernel
theorem dX1_putFigures_18 : decode cX1_putFigures 18 = .ok (.iconst 0, 1) := by decide +kernel
theorem dX1_putFigures_19 : decode cX1_putFigures 19 = .ok (.istore 4, 2) := by decide +kernel
theorem dX1_putFigures_21 : decode cX1_putFigures 21 = .ok (.ldc2_w 29, 3) := by decide +kernel
theorem dX1_putFigures_24 : decode cX1_putFigures 24 = .ok (.lstore 5, 2) := by decide +kernel
theorem dX1_putFigures_26 : decode cX1_putFigures 26 = .ok (.lload 5, 2) := by decide +kernel
theorem dX1_putFigures_28 : decode cX1_putFigures 28 = .ok (.lconst 1, 1) := by decide +kernel
theorem dX1_putFigures_29 : decode cX1_putFigures 29 = .ok (.lcmp, 1) := by decide +kernel
theorem dX1_putFigures_30 : decode cX1_putFigures 30 = .ok (.ifCond .lt 67, 3) := by decide +kernel
theorem dX1_putFigures_97 : decode cX1_putFigures 97 = .ok (.return_, 1) := by decide +kernel
theorem dX1_putFigures_33 : decode cX1_putFigures 33 = .ok (.lload_n 2, 1) := by decide +kernel
theorem dX1_putFigures_34 : decode cX1_putFigures 34 = .ok (.lload 5, 2) := by decide +kernel
theorem dX1_putFigures_36 : decode cX1_putFigures 36 = .ok (.ldiv, 1) := by decide +kernel
theorem dX1_putFigures_37 : decode cX1_putFigures 37 = .ok (.ldc2_w 31, 3) := by decide +kernel
theorem dX1_putFigures_40 : decode cX1_putFigures 40 = .ok (.lrem, 1) := by decide +kernel
theorem dX1_putFigures_41 : decode cX1_putFigures 41 = .ok (.lstore 7, 2) := by decide +kernel
theorem dX1_putFigures_43 : decode cX1_putFigures 43 = .ok (.iload 4, 2) := by decide +kernel
theorem dX1_putFigures_45 : decode cX1_putFigures 45 = .ok (.ifCond .ne 17, 3) := by decide +kernel
theorem dX1_putFigures_62 : decode cX1_putFigures 62 = .ok (.iconst 1, 1) := by decide +kernel
theorem dX1_putFigures_63 : decode cX1_putFigures 63 = .ok (.goto 4, 3) := by decide +kernel
theorem dX1_putFigures_67 : decode cX1_putFigures 67 = .ok (.istore 4, 2) := by decide +kernel
theorem dX1_putFigures_69 : decode cX1_putFigures 69 = .ok (.iload 4, 2) := by decide +kernel
theorem dX1_putFigures_71 : decode cX1_putFigures 71 = .ok (.ifCond .eq 15, 3) := by decide +kernel
theorem dX1_putFigures_74 : decode cX1_putFigures 74 = .ok (.aload_n 0, 1) := by decide +kernel
theorem dX1_putFigures_75 : decode cX1_putFigures 75 = .ok (.ldc2_w 33, 3) := by decide +kernel
theorem dX1_putFigures_78 : decode cX1_putFigures 78 = .ok (.lload 7, 2) := by decide +kernel
theorem dX1_putFigures_80 : decode cX1_putFigures 80 = .ok (.ladd, 1) := by decide +kernel
theorem dX1_putFigures_81 : decode cX1_putFigures 81 = .ok (.l2i, 1) := by decide +kernel
theorem dX1_putFigures_82 : decode cX1_putFigures 82 = .ok (.i2c, 1) := by decide +kernel
theorem dX1_putFigures_83 : decode cX1_putFigures 83 = .ok (.invokevirtual 25, 3) := by decide +kernel
theorem dX1_putFigures_86 : decode cX1_putFigures 86 = .ok (.lload 5, 2) := by decide +kernel
theorem dX1_putFigures_88 : decode cX1_putFigures 88 = .ok (.ldc2_w 31, 3) := by decide +kernel
theorem dX1_putFigures_91 : decode cX1_putFigures 91 = .ok (.ldiv, 1) := by decide +kernel
theorem dX1_putFigures_92 : decode cX1_putFigures 92 = .ok (.lstore 5, 2) := by decide +kernel
theorem dX1_putFigures_94 : decode cX1_putFigures 94 = .ok (.goto (-68), 3) := by decide +kernel
theorem dX1_putFigures_48 : decode cX1_putFigures 48 = .ok (.lload 7, 2) := by decide +kernel
theorem dX1_putFigures_50 : decode cX1_putFigures 50 = .ok (.lconst 0, 1) := by decide +kernel
theorem dX1_putFigures_51 : decode cX1_putFigures 51 = .ok (.lcmp, 1) := by decide +kernel
theorem dX1_putFigures_52 : decode cX1_putFigures 52 = .ok (.ifCond .ne 10, 3) := by decide +kernel
theorem dX1_putFigures_55 : decode cX1_putFigures 55 = .ok (.lload 5, 2) := by decide +kernel
theorem dX1_putFigures_57 : decode cX1_putFigures 57 = .ok (.lconst 1, 1) := by decide +kernel
theorem dX1_putFigures_58 : decode cX1_putFigures 58 = .ok (.lcmp, 1) := by decide +kernel
theorem dX1_putFigures_59 : decode cX1_putFigures 59 = .ok (.ifCond .ne 7, 3) := by decide +kernel
theorem dX1_putFigures_66 : decode cX1_putFigures 66 = .ok (.iconst 0, 1) := by decide +kernel
theorem dX1_putFigures_9 : decode cX1_putFigures 9 = .ok (.aload_n 0, 1) := by decide +kernel
theorem dX1_putFigures_10 : decode cX1_putFigures 10 = .ok (.bipush 45, 2) := by decide +kernel
theorem dX1_putFigures_12 : decode cX1_putFigures 12 = .ok (.invokevirtual 25, 3) := by decide +kernel
theorem dX1_putFigures_15 : decode cX1_putFigures 15 = .ok (.lload_n 2, 1) := by decide +kernel
theorem dX1_putFigures_16 : decode cX1_putFigures 16 = .ok (.lneg, 1) := by decide +kernel
theorem dX1_putFigures_17 : decode cX1_putFigures 17 = .ok (.lstore_n 2, 1) := by decide +kernel
theorem dX1_at_0 : decode cX1_at 0 = .ok (.iload_n 1, 1) := by decide +kernel
theorem dX1_at_1 : decode cX1_at 1 = .ok (.iconst (-1), 1) := by decide +kernel
theorem dX1_at_2 : decode cX1_at 2 = .ok (.if_icmp .ne 8, 3) := by decide +kernel
theorem dX1_at_10 : decode cX1_at 10 = .ok (.iload_n 1, 1) := by decide +kernel
theorem dX1_at_11 : decode cX1_at 11 = .ok (.ifCond .lt 20, 3) := by decide +kernel
theorem dX1_at_31 : decode cX1_at 31 = .ok (.bipush (-9), 2) := by decide +kernel
theorem dX1_at_33 : decode cX1_at 33 = .ok (.ireturn, 1) := by decide +kernel
theorem dX1_at_14 : decode cX1_at 14 = .ok (.iload_n 1, 1) := by decide +kernel
theorem dX1_at_15 : decode cX1_at 15 = .ok (.aload_n 0, 1) := by decide +kernel
theorem dX1_at_16 : decode cX1_at 16 = .ok (.getfield 21, 3) := by decide +kernel
theorem dX1_at_19 : decode cX1_at 19 = .ok (.if_icmp .ge 12, 3) := by decide +kernel
theorem dX1_at_22 : decode cX1_at 22 = .ok (.aload_n 0, 1) := by decide +kernel
theorem dX1_at_23 : decode cX1_at 23 = .ok (.getfield 15, 3) := by decide +kernel
theorem dX1_at_26 : decode cX1_at 26 = .ok (.iload_n 1, 1) := by decide +kernel
theorem dX1_at_27 : decode cX1_at 27 = .ok (.baload, 1) := by decide +kernel
theorem dX1_at_28 : decode cX1_at 28 = .ok (.goto 5, 3) := by decide +kernel
theorem dX1_at_5 : decode cX1_at 5 = .ok (.aload_n 0, 1) := by decide +kernel
theorem dX1_at_6 : decode cX1_at 6 = .ok (.getfield 21, 3) := by decide +kernel
theorem dX1_at_9 : decode cX1_at 9 = .ok (.ireturn, 1) := by decide +kernel
/-! ===== the class's signs ===== -/
def cY (S : cS) (r : Nat) (f : Nat → Int32) : cS := (S.1, fun a => if a = r then f else S.2.1 a, S.2.2)
theorem AW.y {rs is : List Nat} {S u : cS} {r : Nat} {f : Nat → Int32} (h : AW rs is S u) (hB : kB u ≤ 300) (hr : 335 ≤ r) (hs : r - 200 ∈ is) : AW rs is S (cY u r f) := ⟨h.1, fun x hx hk => by
  have hne : x ≠ r := by have := h.2.2.2.1; omega
  have := h.2.1 x hx hk
  exact ⟨(if_neg hne).trans this.1, this.2⟩, h.2.2.1, h.2.2.2.1, fun k h1 h2 h3 => (if_neg (show k ≠ r from fun z => h3 (z ▸ hs))).trans (h.2.2.2.2 k h1 h2 h3)⟩
theorem cset2 {G : cG} {S1 S2 : cS} {q : Nat} {e : Nat × va_E} (h1 : kB S2 = kB S1) (h2 : e = cE G S2 q) (h3 : ∀ k, k < 83 + 2 * kB S1 → k ≠ q → cE G S2 k = cE G S1 k) : (cW G S1).set q e = cW G S2 := by
  apply List.ext_getElem?
  intro k
  rcases Nat.lt_or_ge k (83 + 2 * kB S1) with hk | hk
  · by_cases e1 : k = q
    · subst e1
      rw [List.getElem?_set_self (by unfold cW; simpa using hk), cW_at (by omega), h2]
    · rw [List.getElem?_set_ne (fun z => e1 z.symm), cW_at hk, cW_at (by omega), h3 k hk e1]
  · rw [List.getElem?_eq_none (by unfold cW; simpa using hk), List.getElem?_eq_none (by unfold cW; simpa [h1] using hk)]
theorem cY_row {G : cG} {S : cS} {r k : Nat} {f : Nat → Int32} (h : k / 2 ≠ r) : cE G (cY S r f) (k + 13) = cE G S (k + 13) := by
  show (if k % 2 = 0 then _ else (_, Sum.inl (_, _, Sum.inl (if k / 2 = r then f else S.2.1 (k / 2))))) = _
  rw [if_neg h]
  rfl
section CY
variable {p : Program} {l : Launch} {e : Env} {R : Room} {s : State} {m : MethodId} {args : Array Value} {below : List Frame} {meth : Method} {c : Code} {H : Heap} {locs : List Loc} {Q : State → Prop}
variable {cc : ByteArray} {pc index : Nat} {ls : Array Slot} {rest : List Value} {G : cG} {S S1 : cS}
theorem c_bst9 (hx : p.tables.exec = Jvm.exec) (hb : c.code = cc) (hK : cK G s) (hP : cP G S1 H) (hD : cD (cA G S s.heap.size) G S1) (hS : va_S (cA G S s.heap.size) s.heap H locs) (hB : kB S1 ≤ 300) {j : Nat} {x : Int32} (hj : j < 400) (hdg : decode cc pc = .ok (.bastore, 1)) {cells slots : Nat}
    (kk : ∀ (H : Heap) (locs : List Loc), cP G (cY S1 400 (upd (kF S1 400) j (vp_nar .byte x))) H → cD (cA G S s.heap.size) G (cY S1 400 (upd (kF S1 400) j (vp_nar .byte x))) → va_S (cA G S s.heap.size) s.heap H locs → W p l e R s m args below meth c H locs cells slots Q (F0 m (pc + 1) ls rest)) : W p l e R s m args below meth c H locs cells slots Q (F0 m pc ls (.int x :: .int (nI j) :: .ref (ga G 9) :: rest)) := by
  have hset : (cW G S1).set 9 (ga G 9, .inl (gB G, 400, .inl (upd (kF S1 400) j (vp_nar .byte x)))) = cW G (cY S1 400 (upd (kF S1 400) j (vp_nar .byte x))) := cset2 rfl rfl (fun k hk9 hk => match k, hk9, hk with | 0, _, h => rfl | 1, _, h => rfl | 2, _, h => rfl | 3, _, h => rfl | 4, _, h => rfl | 5, _, h => rfl | 6, _, h => rfl | 7, _, h => rfl | 8, _, h => rfl | 9, _, h => absurd rfl h | 10, _, h => rfl | 11, _, h => rfl | 12, _, h => rfl | k + 13, h9, _ => cY_row (by omega))
  refine va_bast hx hb hK hP hD hS 9 1 cw_9 rfl (vp_in_nI hj (by decide)) hdg (fun H1 l1 hP1 hD1 hS1 => ?_)
  rw [nI_clamp (by omega), hset] at hP1 hD1
  exact kk H1 l1 hP1 hD1 hS1
theorem c_bst10 (hx : p.tables.exec = Jvm.exec) (hb : c.code = cc) (hK : cK G s) (hP : cP G S1 H) (hD : cD (cA G S s.heap.size) G S1) (hS : va_S (cA G S s.heap.size) s.heap H locs) (hB : kB S1 ≤ 300) {j : Nat} {x : Int32} (hj : j < 400) (hdg : decode cc pc = .ok (.bastore, 1)) {cells slots : Nat}
    (kk : ∀ (H : Heap) (locs : List Loc), cP G (cY S1 401 (upd (kF S1 401) j (vp_nar .byte x))) H → cD (cA G S s.heap.size) G (cY S1 401 (upd (kF S1 401) j (vp_nar .byte x))) → va_S (cA G S s.heap.size) s.heap H locs → W p l e R s m args below meth c H locs cells slots Q (F0 m (pc + 1) ls rest)) : W p l e R s m args below meth c H locs cells slots Q (F0 m pc ls (.int x :: .int (nI j) :: .ref (ga G 10) :: rest)) := by
  have hset : (cW G S1).set 10 (ga G 10, .inl (gB G, 400, .inl (upd (kF S1 401) j (vp_nar .byte x)))) = cW G (cY S1 401 (upd (kF S1 401) j (vp_nar .byte x))) := cset2 rfl rfl (fun k hk9 hk => match k, hk9, hk with | 0, _, h => rfl | 1, _, h => rfl | 2, _, h => rfl | 3, _, h => rfl | 4, _, h => rfl | 5, _, h => rfl | 6, _, h => rfl | 7, _, h => rfl | 8, _, h => rfl | 9, _, h => rfl | 10, _, h => absurd rfl h | 11, _, h => rfl | 12, _, h => rfl | k + 13, h9, _ => cY_row (by omega))
  refine va_bast hx hb hK hP hD hS 10 1 cw_10 rfl (vp_in_nI hj (by decide)) hdg (fun H1 l1 hP1 hD1 hS1 => ?_)
  rw [nI_clamp (by omega), hset] at hP1 hD1
  exact kk H1 l1 hP1 hD1 hS1
theorem c_bst11 (hx : p.tables.exec = Jvm.exec) (hb : c.code = cc) (hK : cK G s) (hP : cP G S1 H) (hD : cD (cA G S s.heap.size) G S1) (hS : va_S (cA G S s.heap.size) s.heap H locs) (hB : kB S1 ≤ 300) {j : Nat} {x : Int32} (hj : j < 200) (hdg : decode cc pc = .ok (.bastore, 1)) {cells slots : Nat}
    (kk : ∀ (H : Heap) (locs : List Loc), cP G (cY S1 402 (upd (kF S1 402) j (vp_nar .byte x))) H → cD (cA G S s.heap.size) G (cY S1 402 (upd (kF S1 402) j (vp_nar .byte x))) → va_S (cA G S s.heap.size) s.heap H locs → W p l e R s m args below meth c H locs cells slots Q (F0 m (pc + 1) ls rest)) : W p l e R s m args below meth c H locs cells slots Q (F0 m pc ls (.int x :: .int (nI j) :: .ref (ga G 11) :: rest)) := by
  have hset : (cW G S1).set 11 (ga G 11, .inl (gB G, 200, .inl (upd (kF S1 402) j (vp_nar .byte x)))) = cW G (cY S1 402 (upd (kF S1 402) j (vp_nar .byte x))) := cset2 rfl rfl (fun k hk9 hk => match k, hk9, hk with | 0, _, h => rfl | 1, _, h => rfl | 2, _, h => rfl | 3, _, h => rfl | 4, _, h => rfl | 5, _, h => rfl | 6, _, h => rfl | 7, _, h => rfl | 8, _, h => rfl | 9, _, h => rfl | 10, _, h => rfl | 11, _, h => absurd rfl h | 12, _, h => rfl | k + 13, h9, _ => cY_row (by omega))
  refine va_bast hx hb hK hP hD hS 11 1 cw_11 rfl (vp_in_nI hj (by decide)) hdg (fun H1 l1 hP1 hD1 hS1 => ?_)
  rw [nI_clamp (by omega), hset] at hP1 hD1
  exact kk H1 l1 hP1 hD1 hS1
end CY
def pv (i : Nat) : Int64 := [1000000000, 100000000, 10000000, 1000000, 100000, 10000, 1000, 100, 10, 1].getD i 0
theorem pv_nz : ∀ i, i < 10 → ¬ pv i = 0 := by decide +kernel
theorem pv_div : ∀ i, i < 10 → pv i / 10 = pv (i + 1) := by decide +kernel
theorem pv_ge : ∀ i, i < 10 → ¬ lg_cmp (pv i) 1 < 0 := by decide +kernel
theorem pv_10 : lg_cmp (pv 10) 1 < 0 := by decide +kernel

set_option maxHeartbeats 4000000 in
set_option maxRecDepth 100000 in
/-- isFull -/
theorem s_isFull_6 (l : Launch) (G : cG) (S : cS) (sn : Nat) (hC : CL S) (hn : S.1 200 = nI sn) (hcap : sn ≤ 400) (Hs : Heap) : Met l yX1_isFull (wC yX1_isFull cX1_isFull 1 (some .boolean)) (cRm S 0 0) (cPc G S Hs [.ref (ga G 6)]) (cQi G S Hs (fun v u => AW [] [] S u ∧ (u = S ∧ ((v = 1 ∧ 400 ≤ sn) ∨ (v = 0 ∧ sn < 400))))) (CC - PT S) (12 * (CC - PT S)) (cA G S Hs.size) := by
  refine Met.ofW (cc := cX1_isFull) (maxL := 1) (ret := (some .boolean)) (by decide) rfl ?_
  intro p e s m args below meth c s₁ B hml hv
  obtain ⟨rfl, hsz, hP, hK, hD0, -⟩ := hv
  have hx := B.exec
  have hb := B.bytes
  have hr := B.returns
  have htu : ∀ w ∈ CU, w.before _ s = true := fun w h => atoms_spec (ws := (wC yX1_isFull cX1_isFull 1 (some .boolean))) B.pre w (List.mem_cons_of_mem _ h)
  have hown : s.vm.findClass RX1 = some m.cls := findClass_of_methodNamed B.named
  have hlocks := B.notSynchronized
  subst hsz
  have hD : cD (cA G S s.heap.size) G S := cD_self hD0
  have hl := lv_entry ([.ref (ga G 6)]) (n := 1) (Nat.le_of_ble_eq_true rfl)
  rw [lg_entry_eq]
  generalize (lg_sl ([.ref (ga G 6)]) ++ List.replicate (1 - (lg_sl ([.ref (ga G 6)])).length) Slot.unset).toArray = ls at hl ⊢
  have hl : lv_has ls 1 [(0, .ref (ga G 6))] := hl
  obtain ⟨H, hHe⟩ : ∃ H : Heap, H = s.heap := ⟨_, rfl⟩
  rw [← hHe] at hP
  have hS : va_S (cA G S s.heap.size) s.heap H [] := by rw [hHe]; exact va_S.rf
  have hh : HS S S := HS.rf
  have hpp : PT S ≤ PT S := Nat.le_refl _
  have hB9 := hC.1
  refine W.heq hHe ?_
  refine c_ent (S := S) ?_
  refine lv_aload_n hx hb dX1_isFull_0 rfl (lv_at hl 0 rfl) ?_
  refine va_get (D := gD G) (ci := 1) (v := .int (nI sn)) (C := RX1) (T := TX1) (N := 2) hx hb htu cu_in1 hown hK hP 6 cw_6 rfl 1 (by decide) (htu _ C_455) (fun _ h9 => h9) (m_v hn) dX1_isFull_1 ?_
  refine lv_aload_n hx hb dX1_isFull_4 rfl (lv_at hl 0 rfl) ?_
  refine va_get (D := gD G) (ci := 1) (v := .ref (ga G 9)) (C := RX1) (T := TX1) (N := 2) hx hb htu cu_in1 hown hK hP 6 cw_6 rfl 0 (by decide) (htu _ C_142) (fun _ h9 => h9) rfl dX1_isFull_5 ?_
  refine va_alen hx hb hK hP 9 1 cw_9 rfl (v := 400) rfl dX1_isFull_8 ?_
  refine lv_icmp_lt (tgt := 16) hx hb dX1_isFull_9 (by decide) (fun c_1 => ?_) (fun c_1 => ?_)
  · skip
    have nc_1 : sn < 400 := (nI_ltI (a := sn) (b := 400) (by omega) (by omega)).mp c_1
    refine lv_iconst (v := 0) hx hb dX1_isFull_16 (by decide) ?_
    exact c_zret (v := 0) hx hb hr hK hP hD hS hC hh hpp rfl ⟨AW.rf, ⟨rfl, Or.inr ⟨rfl, nc_1⟩⟩⟩ dX1_isFull_17 hlocks
  · skip
    have nc_1 : ¬ sn < 400 := fun h9 => c_1 ((nI_ltI (a := sn) (b := 400) (by omega) (by omega)).mpr h9)
    refine lv_iconst (v := 1) hx hb dX1_isFull_12 (by decide) ?_
    refine lv_goto (tgt := 17) hx hb dX1_isFull_13 (by decide) ?_
    exact c_zret (v := 1) hx hb hr hK hP hD hS hC hh hpp rfl ⟨AW.rf, ⟨rfl, Or.inl ⟨rfl, Nat.not_lt.mp nc_1⟩⟩⟩ dX1_isFull_17 hlocks

set_option maxHeartbeats 4000000 in
set_option maxRecDepth 100000 in
/-- isFull -/
theorem s_isFull_7 (l : Launch) (G : cG) (S : cS) (sn : Nat) (hC : CL S) (hn : S.1 201 = nI sn) (hcap : sn ≤ 400) (Hs : Heap) : Met l yX1_isFull (wC yX1_isFull cX1_isFull 1 (some .boolean)) (cRm S 0 0) (cPc G S Hs [.ref (ga G 7)]) (cQi G S Hs (fun v u => AW [] [] S u ∧ (u = S ∧ ((v = 1 ∧ 400 ≤ sn) ∨ (v = 0 ∧ sn < 400))))) (CC - PT S) (12 * (CC - PT S)) (cA G S Hs.size) := by
  refine Met.ofW (cc := cX1_isFull) (maxL := 1) (ret := (some .boolean)) (by decide) rfl ?_
  intro p e s m args below meth c s₁ B hml hv
  obtain ⟨rfl, hsz, hP, hK, hD0, -⟩ := hv
  have hx := B.exec
  have hb := B.bytes
  have hr := B.returns
  have htu : ∀ w ∈ CU, w.before _ s = true := fun w h => atoms_spec (ws := (wC yX1_isFull cX1_isFull 1 (some .boolean))) B.pre w (List.mem_cons_of_mem _ h)
  have hown : s.vm.findClass RX1 = some m.cls := findClass_of_methodNamed B.named
  have hlocks := B.notSynchronized
  subst hsz
  have hD : cD (cA G S s.heap.size) G S := cD_self hD0
  have hl := lv_entry ([.ref (ga G 7)]) (n := 1) (Nat.le_of_ble_eq_true rfl)
  rw [lg_entry_eq]
  generalize (lg_sl ([.ref (ga G 7)]) ++ List.replicate (1 - (lg_sl ([.ref (ga G 7)])).length) Slot.unset).toArray = ls at hl ⊢
  have hl : lv_has ls 1 [(0, .ref (ga G 7))] := hl
  obtain ⟨H, hHe⟩ : ∃ H : Heap, H = s.heap := ⟨_, rfl⟩
  rw [← hHe] at hP
  have hS : va_S (cA G S s.heap.size) s.heap H [] := by rw [hHe]; exact va_S.rf
  have hh : HS S S := HS.rf
  have hpp : PT S ≤ PT S := Nat.le_refl _
  have hB9 := hC.1
  refine W.heq hHe ?_
  refine c_ent (S := S) ?_
  refine lv_aload_n hx hb dX1_isFull_0 rfl (lv_at hl 0 rfl) ?_
  refine va_get (D := gD G) (ci := 1) (v := .int (nI sn)) (C := RX1) (T := TX1) (N := 2) hx hb htu cu_in1 hown hK hP 7 cw_7 rfl 1 (by decide) (htu _ C_455) (fun _ h9 => h9) (m_v hn) dX1_isFull_1 ?_
  refine lv_aload_n hx hb dX1_isFull_4 rfl (lv_at hl 0 rfl) ?_
  refine va_get (D := gD G) (ci := 1) (v := .ref (ga G 10)) (C := RX1) (T := TX1) (N := 2) hx hb htu cu_in1 hown hK hP 7 cw_7 rfl 0 (by decide) (htu _ C_142) (fun _ h9 => h9) rfl dX1_isFull_5 ?_
  refine va_alen hx hb hK hP 10 1 cw_10 rfl (v := 400) rfl dX1_isFull_8 ?_
  refine lv_icmp_lt (tgt := 16) hx hb dX1_isFull_9 (by decide) (fun c_1 => ?_) (fun c_1 => ?_)
  · skip
    have nc_1 : sn < 400 := (nI_ltI (a := sn) (b := 400) (by omega) (by omega)).mp c_1
    refine lv_iconst (v := 0) hx hb dX1_isFull_16 (by decide) ?_
    exact c_zret (v := 0) hx hb hr hK hP hD hS hC hh hpp rfl ⟨AW.rf, ⟨rfl, Or.inr ⟨rfl, nc_1⟩⟩⟩ dX1_isFull_17 hlocks
  · skip
    have nc_1 : ¬ sn < 400 := fun h9 => c_1 ((nI_ltI (a := sn) (b := 400) (by omega) (by omega)).mpr h9)
    refine lv_iconst (v := 1) hx hb dX1_isFull_12 (by decide) ?_
    refine lv_goto (tgt := 17) hx hb dX1_isFull_13 (by decide) ?_
    exact c_zret (v := 1) hx hb hr hK hP hD hS hC hh hpp rfl ⟨AW.rf, ⟨rfl, Or.inl ⟨rfl, Nat.not_lt.mp nc_1⟩⟩⟩ dX1_isFull_17 hlocks

set_option maxHeartbeats 4000000 in
set_option maxRecDepth 100000 in
/-- at -/
theorem s_at_7 (l : Launch) (G : cG) (S : cS) (sn : Nat) (y : Int32) (hC : CL S) (hn : S.1 201 = nI sn) (hcap : sn ≤ 400) (Hs : Heap) : Met l yX1_at (wC yX1_at cX1_at 2 (some .int)) (cRm S 0 0) (cPc G S Hs [.ref (ga G 7), .int y]) (cQi G S Hs (fun v u => AW [] [] S u ∧ (u = S))) (CC - PT S) (12 * (CC - PT S)) (cA G S Hs.size) := by
  refine Met.ofW (cc := cX1_at) (maxL := 2) (ret := (some .int)) (by decide) rfl ?_
  intro p e s m args below meth c s₁ B hml hv
  obtain ⟨rfl, hsz, hP, hK, hD0, -⟩ := hv
  have hx := B.exec
  have hb := B.bytes
  have hr := B.returns
  have htu : ∀ w ∈ CU, w.before _ s = true := fun w h => atoms_spec (ws := (wC yX1_at cX1_at 2 (some .int))) B.pre w (List.mem_cons_of_mem _ h)
  have hown : s.vm.findClass RX1 = some m.cls := findClass_of_methodNamed B.named
  have hlocks := B.notSynchronized
  subst hsz
  have hD : cD (cA G S s.heap.size) G S := cD_self hD0
  have hl := lv_entry ([.ref (ga G 7), .int y]) (n := 2) (Nat.le_of_ble_eq_true rfl)
  rw [lg_entry_eq]
  generalize (lg_sl ([.ref (ga G 7), .int y]) ++ List.replicate (2 - (lg_sl ([.ref (ga G 7), .int y])).length) Slot.unset).toArray = ls at hl ⊢
  have hl : lv_has ls 2 [(0, .ref (ga G 7)), (1, .int y)] := hl
  obtain ⟨H, hHe⟩ : ∃ H : Heap, H = s.heap := ⟨_, rfl⟩
  rw [← hHe] at hP
  have hS : va_S (cA G S s.heap.size) s.heap H [] := by rw [hHe]; exact va_S.rf
  have hh : HS S S := HS.rf
  have hpp : PT S ≤ PT S := Nat.le_refl _
  have hB9 := hC.1
  refine W.heq hHe ?_
  refine c_ent (S := S) ?_
  refine lv_iload_n hx hb dX1_at_0 rfl (lv_at hl 1 rfl) ?_
  refine lv_iconst (v := (-1)) hx hb dX1_at_1 (by decide) ?_
  refine lv_icmp_ne (tgt := 10) hx hb dX1_at_2 (by decide) (fun c_1 => ?_) (fun c_1 => ?_)
  · skip
    refine lv_iload_n hx hb dX1_at_10 rfl (lv_at hl 1 rfl) ?_
    refine lv_if_lt (tgt := 31) hx hb dX1_at_11 (by decide) (fun c_2 => ?_) (fun c_2 => ?_)
    · skip
      refine lv_bipush (v := (-9)) hx hb dX1_at_31 (by decide) ?_
      exact c_iret (v := (-9)) hx hb hr hK hP hD hS hC hh hpp ⟨AW.rf, rfl⟩ dX1_at_33 hlocks
    · skip
      refine lv_iload_n hx hb dX1_at_14 rfl (lv_at hl 1 rfl) ?_
      refine lv_aload_n hx hb dX1_at_15 rfl (lv_at hl 0 rfl) ?_
      refine va_get (D := gD G) (ci := 1) (v := .int (nI sn)) (C := RX1) (T := TX1) (N := 2) hx hb htu cu_in1 hown hK hP 7 cw_7 rfl 1 (by decide) (htu _ C_455) (fun _ h9 => h9) (m_v hn) dX1_at_16 ?_
      refine lv_icmp_ge (tgt := 31) hx hb dX1_at_19 (by decide) (fun c_3 => ?_) (fun c_3 => ?_)
      · skip
        refine lv_bipush (v := (-9)) hx hb dX1_at_31 (by decide) ?_
        exact c_iret (v := (-9)) hx hb hr hK hP hD hS hC hh hpp ⟨AW.rf, rfl⟩ dX1_at_33 hlocks
      · skip
        refine lv_aload_n hx hb dX1_at_22 rfl (lv_at hl 0 rfl) ?_
        refine va_get (D := gD G) (ci := 1) (v := .ref (ga G 10)) (C := RX1) (T := TX1) (N := 2) hx hb htu cu_in1 hown hK hP 7 cw_7 rfl 0 (by decide) (htu _ C_142) (fun _ h9 => h9) rfl dX1_at_23 ?_
        refine lv_iload_n hx hb dX1_at_26 rfl (lv_at hl 1 rfl) ?_
        refine va_bald hx hb hK hP 10 1 cw_10 rfl (rin c_2 c_3 hcap (by decide)) dX1_at_27 ?_
        refine lv_topi (fun f_4 ef_4 => ?_)
        refine lv_goto (tgt := 33) hx hb dX1_at_28 (by decide) ?_
        exact c_iret (v := f_4) hx hb hr hK hP hD hS hC hh hpp ⟨AW.rf, rfl⟩ dX1_at_33 hlocks
  · skip
    refine lv_aload_n hx hb dX1_at_5 rfl (lv_at hl 0 rfl) ?_
    refine va_get (D := gD G) (ci := 1) (v := .int (nI sn)) (C := RX1) (T := TX1) (N := 2) hx hb htu cu_in1 hown hK hP 7 cw_7 rfl 1 (by decide) (htu _ C_455) (fun _ h9 => h9) (m_v hn) dX1_at_6 ?_
    exact c_iret (v := nI sn) hx hb hr hK hP hD hS hC hh hpp ⟨AW.rf, rfl⟩ dX1_at_9 hlocks

set_option maxHeartbeats 4000000 in
set_option maxRecDepth 100000 in
/-- isFull -/
theorem s_isFull_8 (l : Launch) (G : cG) (S : cS) (sn : Nat) (hC : CL S) (hn : S.1 202 = nI sn) (hcap : sn ≤ 200) (Hs : Heap) : Met l yX1_isFull (wC yX1_isFull cX1_isFull 1 (some .boolean)) (cRm S 0 0) (cPc G S Hs [.ref (ga G 8)]) (cQi G S Hs (fun v u => AW [] [] S u ∧ (u = S ∧ ((v = 1 ∧ 200 ≤ sn) ∨ (v = 0 ∧ sn < 200))))) (CC - PT S) (12 * (CC - PT S)) (cA G S Hs.size) := by
  refine Met.ofW (cc := cX1_isFull) (maxL := 1) (ret := (some .boolean)) (by decide) rfl ?_
  intro p e s m args below meth c s₁ B hml hv
  obtain ⟨rfl, hsz, hP, hK, hD0, -⟩ := hv
  have hx := B.exec
  have hb := B.bytes
  have hr := B.returns
  have htu : ∀ w ∈ CU, w.before _ s = true := fun w h => atoms_spec (ws := (wC yX1_isFull cX1_isFull 1 (some .boolean))) B.pre w (List.mem_cons_of_mem _ h)
  have hown : s.vm.findClass RX1 = some m.cls := findClass_of_methodNamed B.named
  have hlocks := B.notSynchronized
  subst hsz
  have hD : cD (cA G S s.heap.size) G S := cD_self hD0
  have hl := lv_entry ([.ref (ga G 8)]) (n := 1) (Nat.le_of_ble_eq_true rfl)
  rw [lg_entry_eq]
  generalize (lg_sl ([.ref (ga G 8)]) ++ List.replicate (1 - (lg_sl ([.ref (ga G 8)])).length) Slot.unset).toArray = ls at hl ⊢
  have hl : lv_has ls 1 [(0, .ref (ga G 8))] := hl
  obtain ⟨H, hHe⟩ : ∃ H : Heap, H = s.heap := ⟨_, rfl⟩
  rw [← hHe] at hP
  have hS : va_S (cA G S s.heap.size) s.heap H [] := by rw [hHe]; exact va_S.rf
  have hh : HS S S := HS.rf
  have hpp : PT S ≤ PT S := Nat.le_refl _
  have hB9 := hC.1
  refine W.heq hHe ?_
  refine c_ent (S := S) ?_
  refine lv_aload_n hx hb dX1_isFull_0 rfl (lv_at hl 0 rfl) ?_
  refine va_get (D := gD G) (ci := 1) (v := .int (nI sn)) (C := RX1) (T := TX1) (N := 2) hx hb htu cu_in1 hown hK hP 8 cw_8 rfl 1 (by decide) (htu _ C_455) (fun _ h9 => h9) (m_v hn) dX1_isFull_1 ?_
  refine lv_aload_n hx hb dX1_isFull_4 rfl (lv_at hl 0 rfl) ?_
  refine va_get (D := gD G) (ci := 1) (v := .ref (ga G 11)) (C := RX1) (T := TX1) (N := 2) hx hb htu cu_in1 hown hK hP 8 cw_8 rfl 0 (by decide) (htu _ C_142) (fun _ h9 => h9) rfl dX1_isFull_5 ?_
  refine va_alen hx hb hK hP 11 1 cw_11 rfl (v := 200) rfl dX1_isFull_8 ?_
  refine lv_icmp_lt (tgt := 16) hx hb dX1_isFull_9 (by decide) (fun c_1 => ?_) (fun c_1 => ?_)
  · skip
    have nc_1 : sn < 200 := (nI_ltI (a := sn) (b := 200) (by omega) (by omega)).mp c_1
    refine lv_iconst (v := 0) hx hb dX1_isFull_16 (by decide) ?_
    exact c_zret (v := 0) hx hb hr hK hP hD hS hC hh hpp rfl ⟨AW.rf, ⟨rfl, Or.inr ⟨rfl, nc_1⟩⟩⟩ dX1_isFull_17 hlocks
  · skip
    have nc_1 : ¬ sn < 200 := fun h9 => c_1 ((nI_ltI (a := sn) (b := 200) (by omega) (by omega)).mpr h9)
    refine lv_iconst (v := 1) hx hb dX1_isFull_12 (by decide) ?_
    refine lv_goto (tgt := 17) hx hb dX1_isFull_13 (by decide) ?_
    exact c_zret (v := 1) hx hb hr hK hP hD hS hC hh hpp rfl ⟨AW.rf, ⟨rfl, Or.inl ⟨rfl, Nat.not_lt.mp nc_1⟩⟩⟩ dX1_isFull_17 hlocks

set_option maxHeartbeats 4000000 in
set_option maxRecDepth 100000 in
/-- at -/
theorem s_at_8 (l : Launch) (G : cG) (S : cS) (sn : Nat) (y : Int32) (hC : CL S) (hn : S.1 202 = nI sn) (hcap : sn ≤ 200) (Hs : Heap) : Met l yX1_at (wC yX1_at cX1_at 2 (some .int)) (cRm S 0 0) (cPc G S Hs [.ref (ga G 8), .int y]) (cQi G S Hs (fun v u => AW [] [] S u ∧ (u = S))) (CC - PT S) (12 * (CC - PT S)) (cA G S Hs.size) := by
  refine Met.ofW (cc := cX1_at) (maxL := 2) (ret := (some .int)) (by decide) rfl ?_
  intro p e s m args below meth c s₁ B hml hv
  obtain ⟨rfl, hsz, hP, hK, hD0, -⟩ := hv
  have hx := B.exec
  have hb := B.bytes
  have hr := B.returns
  have htu : ∀ w ∈ CU, w.before _ s = true := fun w h => atoms_spec (ws := (wC yX1_at cX1_at 2 (some .int))) B.pre w (List.mem_cons_of_mem _ h)
  have hown : s.vm.findClass RX1 = some m.cls := findClass_of_methodNamed B.named
  have hlocks := B.notSynchronized
  subst hsz
  have hD : cD (cA G S s.heap.size) G S := cD_self hD0
  have hl := lv_entry ([.ref (ga G 8), .int y]) (n := 2) (Nat.le_of_ble_eq_true rfl)
  rw [lg_entry_eq]
  generalize (lg_sl ([.ref (ga G 8), .int y]) ++ List.replicate (2 - (lg_sl ([.ref (ga G 8), .int y])).length) Slot.unset).toArray = ls at hl ⊢
  have hl : lv_has ls 2 [(0, .ref (ga G 8)), (1, .int y)] := hl
  obtain ⟨H, hHe⟩ : ∃ H : Heap, H = s.heap := ⟨_, rfl⟩
  rw [← hHe] at hP
  have hS : va_S (cA G S s.heap.size) s.heap H [] := by rw [hHe]; exact va_S.rf
  have hh : HS S S := HS.rf
  have hpp : PT S ≤ PT S := Nat.le_refl _
  have hB9 := hC.1
  refine W.heq hHe ?_
  refine c_ent (S := S) ?_
  refine lv_iload_n hx hb dX1_at_0 rfl (lv_at hl 1 rfl) ?_
  refine lv_iconst (v := (-1)) hx hb dX1_at_1 (by decide) ?_
  refine lv_icmp_ne (tgt := 10) hx hb dX1_at_2 (by decide) (fun c_1 => ?_) (fun c_1 => ?_)
  · skip
    refine lv_iload_n hx hb dX1_at_10 rfl (lv_at hl 1 rfl) ?_
    refine lv_if_lt (tgt := 31) hx hb dX1_at_11 (by decide) (fun c_2 => ?_) (fun c_2 => ?_)
    · skip
      refine lv_bipush (v := (-9)) hx hb dX1_at_31 (by decide) ?_
      exact c_iret (v := (-9)) hx hb hr hK hP hD hS hC hh hpp ⟨AW.rf, rfl⟩ dX1_at_33 hlocks
    · skip
      refine lv_iload_n hx hb dX1_at_14 rfl (lv_at hl 1 rfl) ?_
      refine lv_aload_n hx hb dX1_at_15 rfl (lv_at hl 0 rfl) ?_
      refine va_get (D := gD G) (ci := 1) (v := .int (nI sn)) (C := RX1) (T := TX1) (N := 2) hx hb htu cu_in1 hown hK hP 8 cw_8 rfl 1 (by decide) (htu _ C_455) (fun _ h9 => h9) (m_v hn) dX1_at_16 ?_
      refine lv_icmp_ge (tgt := 31) hx hb dX1_at_19 (by decide) (fun c_3 => ?_) (fun c_3 => ?_)
      · skip
        refine lv_bipush (v := (-9)) hx hb dX1_at_31 (by decide) ?_
        exact c_iret (v := (-9)) hx hb hr hK hP hD hS hC hh hpp ⟨AW.rf, rfl⟩ dX1_at_33 hlocks
      · skip
        refine lv_aload_n hx hb dX1_at_22 rfl (lv_at hl 0 rfl) ?_
        refine va_get (D := gD G) (ci := 1) (v := .ref (ga G 11)) (C := RX1) (T := TX1) (N := 2) hx hb htu cu_in1 hown hK hP 8 cw_8 rfl 0 (by decide) (htu _ C_142) (fun _ h9 => h9) rfl dX1_at_23 ?_
        refine lv_iload_n hx hb dX1_at_26 rfl (lv_at hl 1 rfl) ?_
        refine va_bald hx hb hK hP 11 1 cw_11 rfl (rin c_2 c_3 hcap (by decide)) dX1_at_27 ?_
        refine lv_topi (fun f_4 ef_4 => ?_)
        refine lv_goto (tgt := 33) hx hb dX1_at_28 (by decide) ?_
        exact c_iret (v := f_4) hx hb hr hK hP hD hS hC hh hpp ⟨AW.rf, rfl⟩ dX1_at_33 hlocks
  · skip
    refine lv_aload_n hx hb dX1_at_5 rfl (lv_at hl 0 rfl) ?_
    refine va_get (D := gD G) (ci := 1) (v := .int (nI sn)) (C := RX1) (T := TX1) (N := 2) hx hb htu cu_in1 hown hK hP 8 cw_8 rfl 1 (by decide) (htu _ C_455) (fun _ h9 => h9) (m_v hn) dX1_at_6 ?_
    exact c_iret (v := nI sn) hx hb hr hK hP hD hS hC hh hpp ⟨AW.rf, rfl⟩ dX1_at_9 hlocks

