theorem dX1_clear_0 : decode cX1_clear 0 = .ok (.aload_n 0, 1) := by decide +kernel
theorem dX1_clear_1 : decode cX1_clear 1 = .ok (.iconst 0, 1) := by decide +kernel
theorem dX1_clear_2 : decode cX1_clear 2 = .ok (.putfield 21, 3) := by decide +kernel
theorem dX1_clear_5 : decode cX1_clear 5 = .ok (.return_, 1) := by decide +kernel
theorem dX1_isFull_0 : decode cX1_isFull 0 = .ok (.aload_n 0, 1) := by decide +kernel
theorem dX1_isFull_1 : decode cX1_isFull 1 = .ok (.getfield 21, 3) := by decide +kernel
theorem dX1_isFull_4 : decode cX1_isFull 4 = .ok (.aload_n 0, 1) := by decide +kernel
theorem dX1_isFull_5 : decode cX1_isFull 5 = .ok (.getfield 15, 3) := by decide +kernel
theorem dX1_isFull_8 : decode cX1_isFull 8 = .ok (.arraylength, 1) := by decide +kernel
theorem dX1_isFull_9 : decode cX1_isFull 9 = .ok (.if_icmp .lt 7, 3) := by decide +kernel
theorem dX1_isFull_16 : decode cX1_isFull 16 = .ok (.iconst 0, 1) := by decide +kernel
theorem dX1_isFull_17 : decode cX1_isFull 17 = .ok (.ireturn, 1) := by decide +kernel
theorem dX1_isFull_12 : decode cX1_isFull 12 = .ok (.iconst 1, 1) := by decide +kernel
theorem dX1_isFull_13 : decode cX1_isFull 13 = .ok (.goto 4, 3) := by decide +kernel
theorem dX1_put_0 : decode cX1_put 0 = .ok (.aload_n 0, 1) := by decide +kernel
theorem dX1_put_1 : decode cX1_put 1 = .ok (.getfield 21, 3) := by decide +kernel
theorem dX1_put_4 : decode cX1_put 4 = .ok (.aload_n 0, 1) := by decide +kernel
theorem dX1_put_5 : decode cX1_put 5 = .ok (.getfield 15, 3) := by decide +kernel
theorem dX1_put_8 : decode cX1_put 8 = .ok (.arraylength, 1) := by decide +kernel
theorem dX1_put_9 : decode cX1_put 9 = .ok (.if_icmp .lt 4, 3) := by decide +kernel
theorem dX1_put_13 : decode cX1_put 13 = .ok (.aload_n 0, 1) := by decide +kernel
theorem dX1_put_14 : decode cX1_put 14 = .ok (.getfield 15, 3) := by decide +kernel
theorem dX1_put_17 : decode cX1_put 17 = .ok (.aload_n 0, 1) := by decide +kernel
theorem dX1_put_18 : decode cX1_put 18 = .ok (.getfield 21, 3) := by decide +kernel
theorem dX1_put_21 : decode cX1_put 21 = .ok (.iload_n 1, 1) := by decide +kernel
theorem dX1_put_22 : decode cX1_put 22 = .ok (.i2b, 1) := by decide +kernel
theorem dX1_put_23 : decode cX1_put 23 = .ok (.bastore, 1) := by decide +kernel
theorem dX1_put_24 : decode cX1_put 24 = .ok (.aload_n 0, 1) := by decide +kernel
theorem dX1_put_25 : decode cX1_put 25 = .ok (.dup, 1) := by decide +kernel
theorem dX1_put_26 : decode cX1_put 26 = .ok (.getfield 21, 3) := by decide +kernel
theorem dX1_put_29 : decode cX1_put 29 = .ok (.iconst 1, 1) := by decide +kernel
theorem dX1_put_30 : decode cX1_put 30 = .ok (.iadd, 1) := by decide +kernel
theorem dX1_put_31 : decode cX1_put 31 = .ok (.putfield 21, 3) := by decide +kernel
theorem dX1_put_34 : decode cX1_put 34 = .ok (.return_, 1) := by decide +kernel
theorem dX1_put_12 : decode cX1_put 12 = .ok (.return_, 1) := by decide +kernel
theorem dX1_putLetter_0 : decode cX1_putLetter 0 = .ok (.aload_n 0, 1) := by decide +kernel
theorem dX1_putLetter_1 : decode cX1_putLetter 1 = .ok (.bipush 97, 2) := by decide +kernel
theorem dX1_putLetter_3 : decode cX1_putLetter 3 = .ok (.iload_n 1, 1) := by decide +kernel
theorem dX1_putLetter_4 : decode cX1_putLetter 4 = .ok (.iadd, 1) := by decide +kernel
theorem dX1_putLetter_5 : decode cX1_putLetter 5 = .ok (.i2c, 1) := by decide +kernel
theorem dX1_putLetter_6 : decode cX1_putLetter 6 = .ok (.invokevirtual 25, 3) := by decide +kernel
theorem dX1_putLetter_9 : decode cX1_putLetter 9 = .ok (.return_, 1) := by decide +kernel
theorem dX1_putFigures_0 : decode cX1_putFigures 0 = .ok (.iload_n 1, 1) := by decide +kernel
theorem dX1_putFigures_1 : decode cX1_putFigures 1 = .ok (.i2l, 1) := by decide +kernel
theorem dX1_putFigures_2 : decode cX1_putFigures 2 = .ok (.lstore_n 2, 1) := by decide +kernel
theorem dX1_putFigures_3 : decode cX1_putFigures 3 = .ok (.lload_n 2, 1) := by decide +kernel
theorem dX1_putFigures_4 : decode cX1_putFigures 4 = .ok (.lconst 0, 1) := by decide +kernel
theorem dX1_putFigures_5 : decode cX1_putFigures 5 = .ok (.lcmp, 1) := by decide +kernel
theorem dX1_putFigures_6 : decode cX1_putFigures 6 = .ok (.ifCond .ge 12, 3) := by decide +kernel
theorem dX1_putFigures_18 : decode cX1_putFigures 18 = .ok (.iconst 0, 1) := by decide +kernel
theorem dX1_putFigures_19 : decode cX1_putFigures 19 = .ok (.istore 4, 2) := by decide +kernel
theorem dX1_putFigures_21 : decode cX1_putFigures 21 = .ok (.ldc2_w 29, 3) := by decide +kernel
theorem dX1_putFigures_24 : decode cX1_putFigures 24 = .ok (.lstore 5, 2) := by decide +kernel
theorem dX1_putFigures_26 : decode cX1_putFigures 26 = .ok (.lload 5, 2) := by decide +kernel
theorem dX1_putFigures_28 : decode cX1_putFigures 28 = .ok (.lconst 1, 1) := by decide +kernel
theorem dX1_putFigures_29 : decode cX1_putFigures 29 = .ok (.lcmp, 1) := by decide +kernel
theorem dX1_putFigures_30 : decode cX1_putFigures 30 = .ok (.ifCond .lt 67, 3) := by decide +kernel
theorem dX1_putFigures_97 : decode cX1_putFigures 97 = .ok (.return_, 1) := by decide +kernel
theorem dX1_putFigures_33 : decode cX1_putFigures 33 = .ok (.lload_n 2, 1) := by decide +kernel
theorem dX1_putFigures_34 : decode cX1_putFigures 34 = .ok (.lload 5, 2) := by decide +kernel
theorem dX1_putFigures_36 : decode cX1_putFigures 36 = .ok (.ldiv, 1) := by decide +kernel
theorem dX1_putFigures_37 : decode cX1_putFigures 37 = .ok (.ldc2_w 31, 3) := by decide +kernel
theorem dX1_putFigures_40 : decode cX1_putFigures 40 = .ok (.lrem, 1) := by decide +kernel
theorem dX1_putFigures_41 : decode cX1_putFigures 41 = .ok (.lstore 7, 2) := by decide +kernel
theorem dX1_putFigures_43 : decode cX1_putFigures 43 = .ok (.iload 4, 2) := by decide +kernel
theorem dX1_putFigures_45 : decode cX1_putFigures 45 = .ok (.ifCond .ne 17, 3) := by decide +kernel
theorem dX1_putFigures_62 : decode cX1_putFigures 62 = .ok (.iconst 1, 1) := by decide +kernel
theorem dX1_putFigures_63 : decode cX1_putFigures 63 = .ok (.goto 4, 3) := by decide +kernel
theorem dX1_putFigures_67 : decode cX1_putFigures 67 = .ok (.istore 4, 2) := by decide +kernel
theorem dX1_putFigures_69 : decode cX1_putFigures 69 = .ok (.iload 4, 2) := by decide +kernel
theorem dX1_putFigures_71 : decode cX1_putFigures 71 = .ok (.ifCond .eq 15, 3) := by decide +kernel
theorem dX1_putFigures_74 : decode cX1_putFigures 74 = .ok (.aload_n 0, 1) := by decide +kernel
theorem dX1_putFigures_75 : decode cX1_putFigures 75 = .ok (.ldc2_w 33, 3) := by decide +kernel
theorem dX1_putFigures_78 : decode cX1_putFigures 78 = .ok (.lload 7, 2) := by decide +kernel
theorem dX1_putFigures_80 : decode cX1_putFigures 80 = .ok (.ladd, 1) := by decide +kernel
theorem dX1_putFigures_81 : decode cX1_putFigures 81 = .ok (.l2i, 1) := by decide +kernel
theorem dX1_putFigures_82 : decode cX1_putFigures 82 = .ok (.i2c, 1) := by decide +kernel
theorem dX1_putFigures_83 : decode cX1_putFigures 83 = .ok (.invokevirtual 25, 3) := by decide +kernel
theorem dX1_putFigures_86 : decode cX1_putFigures 86 = .ok (.lload 5, 2) := by decide +kernel
theorem dX1_putFigures_88 : decode cX1_putFigures 88 = .ok (.ldc2_w 31, 3) := by decide +kernel
theorem dX1_putFigures_91 : decode cX1_putFigures 91 = .ok (.ldiv, 1) := by decide +kernel
theorem dX1_putFigures_92 : decode cX1_putFigures 92 = .ok (.lstore 5, 2) := by decide +kernel
theorem dX1_putFigures_94 : decode cX1_putFigures 94 = .ok (.goto (-68), 3) := by decide +kernel
theorem dX1_putFigures_48 : decode cX1_putFigures 48 = .ok (.lload 7, 2) := by decide +kernel
theorem dX1_putFigures_50 : decode cX1_putFigures 50 = .ok (.lconst 0, 1) := by decide +kernel
theorem dX1_putFigures_51 : decode cX1_putFigures 51 = .ok (.lcmp, 1) := by decide +kernel
theorem dX1_putFigures_52 : decode cX1_putFigures 52 = .ok (.ifCond .ne 10, 3) := by decide +kernel
theorem dX1_putFigures_55 : decode cX1_putFigures 55 = .ok (.lload 5, 2) := by decide +kernel
theorem dX1_putFigures_57 : decode cX1_putFigures 57 = .ok (.lconst 1, 1) := by decide +kernel
theorem dX1_putFigures_58 : decode cX1_putFigures 58 = .ok (.lcmp, 1) := by decide +kernel
theorem dX1_putFigures_59 : decode cX1_putFigures 59 = .ok (.ifCond .ne 7, 3) := by decide +kernel
theorem dX1_putFigures_66 : decode cX1_putFigures 66 = .ok (.iconst 0, 1) := by decide +kernel
theorem dX1_putFigures_9 : decode cX1_putFigures 9 = .ok (.aload_n 0, 1) := by decide +kernel
theorem dX1_putFigures_10 : decode cX1_putFigures 10 = .ok (.bipush 45, 2) := by decide +kernel
theorem dX1_putFigures_12 : decode cX1_putFigures 12 = .ok (.invokevirtual 25, 3) := by decide +kernel
theorem dX1_putFigures_15 : decode cX1_putFigures 15 = .ok (.lload_n 2, 1) := by decide +kernel
theorem dX1_putFigures_16 : decode cX1_putFigures 16 = .ok (.lneg, 1) := by decide +kernel
theorem dX1_putFigures_17 : decode cX1_putFigures 17 = .ok (.lstore_n 2, 1) := by decide +kernel
theorem dX1_at_0 : decode cX1_at 0 = .ok (.iload_n 1, 1) := by decide +kernel
theorem dX1_at_1 : decode cX1_at 1 = .ok (.iconst (-1), 1) := by decide +kernel
theorem dX1_at_2 : decode cX1_at 2 = .ok (.if_icmp .ne 8, 3) := by decide +kernel
theorem dX1_at_10 : decode cX1_at 10 = .ok (.iload_n 1, 1) := by decide +kernel
theorem dX1_at_11 : decode cX1_at 11 = .ok (.ifCond .lt 20, 3) := by decide +kernel
theorem dX1_at_31 : decode cX1_at 31 = .ok (.bipush (-9), 2) := by decide +kernel
theorem dX1_at_33 : decode cX1_at 33 = .ok (.ireturn, 1) := by decide +kernel
theorem dX1_at_14 : decode cX1_at 14 = .ok (.iload_n 1, 1) := by decide +kernel
theorem dX1_at_15 : decode cX1_at 15 = .ok (.aload_n 0, 1) := by decide +kernel
theorem dX1_at_16 : decode cX1_at 16 = .ok (.getfield 21, 3) := by decide +kernel
theorem dX1_at_19 : decode cX1_at 19 = .ok (.if_icmp .ge 12, 3) := by decide +kernel
theorem dX1_at_22 : decode cX1_at 22 = .ok (.aload_n 0, 1) := by decide +kernel
theorem dX1_at_23 : decode cX1_at 23 = .ok (.getfield 15, 3) := by decide +kernel
theorem dX1_at_26 : decode cX1_at 26 = .ok (.iload_n 1, 1) := by decide +kernel
theorem dX1_at_27 : decode cX1_at 27 = .ok (.baload, 1) := by decide +kernel
theorem dX1_at_28 : decode cX1_at 28 = .ok (.goto 5, 3) := by decide +kernel
theorem dX1_at_5 : decode cX1_at 5 = .ok (.aload_n 0, 1) := by decide +kernel
theorem dX1_at_6 : decode cX1_at 6 = .ok (.getfield 21, 3) := by decide +kernel
theorem dX1_at_9 : decode cX1_at 9 = .ok (.ireturn, 1) := by decide +kernel
/-! ===== the class's signs ===== -/
def cY (S : cS) (r : Nat) (f : Nat → Int32) : cS := (S.1, fun a => if a = r then f else S.2.1 a, S.2.2)
theorem AW.y {rs is : List Nat} {S u : cS} {r : Nat} {f : Nat → Int32} (h : AW rs is S u) (hB : kB u ≤ 300) (hr : 335 ≤ r) (hs : r - 200 ∈ is) : AW rs is S (cY u r f) := ⟨h.1, fun x hx hk => by
  have hne : x ≠ r := by have := h.2.2.2.1; omega
  have := h.2.1 x hx hk
  exact ⟨(if_neg hne).trans this.1, this.2⟩, h.2.2.1, h.2.2.2.1, fun k h1 h2 h3 => (if_neg (show k ≠ r from fun z => h3 (z ▸ hs))).trans (h.2.2.2.2 k h1 h2 h3)⟩
theorem cset2 {G : cG} {S1 S2 : cS} {q : Nat} {e : Nat × va_E} (h1 : kB S2 = kB S1) (h2 : e = cE G S2 q) (h3 : ∀ k, k < 83 + 2 * kB S1 → k ≠ q → cE G S2 k = cE G S1 k) : (cW G S1).set q e = cW G S2 := by
  apply List.ext_getElem?
  intro k
  rcases Nat.lt_or_ge k (83 + 2 * kB S1) with hk | hk
  · by_cases e1 : k = q
    · subst e1
      rw [List.getElem?_set_self (by unfold cW; simpa using hk), cW_at (by omega), h2]
    · rw [List.getElem?_set_ne (fun z => e1 z.symm), cW_at hk, cW_at (by omega), h3 k hk e1]
  · rw [List.getElem?_eq_none (by unfold cW; simpa using hk), List.getElem?_eq_none (by unfold cW; simpa [h1] using hk)]
theorem cY_row {G : cG} {S : cS} {r k : Nat} {f : Nat → Int32} (h : k / 2 ≠ r) : cE G (cY S r f) (k + 13) = cE G S (k + 13) := by
  show (if k % 2 = 0 then _ else (_, Sum.inl (_, _, Sum.inl (if k / 2 = r then f else S.2.1 (k / 2))))) = _
  rw [if_neg h]
  rfl
section CY
variable {p : Program} {l : Launch} {e : Env} {R : Room} {s : State} {m : MethodId} {args : Array Value} {below : List Frame} {meth : Method} {c : Code} {H : Heap} {locs : List Loc} {Q : State → Prop}
variable {cc : ByteArray} {pc index : Nat} {ls : Array Slot} {rest : List Value} {G : cG} {S S1 : cS}
theorem c_bst9 (hx : p.tables.exec = Jvm.exec) (hb : c.code = cc) (hK : cK G s) (hP : cP G S1 H) (hD : cD (cA G S s.heap.size) G S1) (hS : va_S (cA G S s.heap.size) s.heap H locs) (hB : kB S1 ≤ 300) {j : Nat} {x : Int32} (hj : j < 400) (hdg : decode cc pc = .ok (.bastore, 1)) {cells slots : Nat}
    (kk : ∀ (H : Heap) (locs : List Loc), cP G (cY S1 400 (upd (kF S1 400) j (vp_nar .byte x))) H → cD (cA G S s.heap.size) G (cY S1 400 (upd (kF S1 400) j (vp_nar .byte x))) → va_S (cA G S s.heap.size) s.heap H locs → W p l e R s m args below meth c H locs cells slots Q (F0 m (pc + 1) ls rest)) : W p l e R s m args below meth c H locs cells slots Q (F0 m pc ls (.int x :: .int (nI j) :: .ref (ga G 9) :: rest)) := by
  have hset : (cW G S1).set 9 (ga G 9, .inl (gB G, 400, .inl (upd (kF S1 400) j (vp_nar .byte x)))) = cW G (cY S1 400 (upd (kF S1 400) j (vp_nar .byte x))) := cset2 rfl rfl (fun k hk9 hk => match k, hk9, hk with | 0, _, h => rfl | 1, _, h => rfl | 2, _, h => rfl | 3, _, h => rfl | 4, _, h => rfl | 5, _, h => rfl | 6, _, h => rfl | 7, _, h => rfl | 8, _, h => rfl | 9, _, h => absurd rfl h | 10, _, h => rfl | 11, _, h => rfl | 12, _, h => rfl | k + 13, h9, _ => cY_row (by omega))
  refine va_bast hx hb hK hP hD hS 9 1 cw_9 rfl (vp_in_nI hj (by decide)) hdg (fun H1 l1 hP1 hD1 hS1 => ?_)
  rw [nI_clamp (by omega), hset] at hP1 hD1
  exact kk H1 l1 hP1 hD1 hS1
theorem c_bst10 (hx : p.tables.exec = Jvm.exec) (hb : c.code = cc) (hK : cK G s) (hP : cP G S1 H) (hD : cD (cA G S s.heap.size) G S1) (hS : va_S (cA G S s.heap.size) s.heap H locs) (hB : kB S1 ≤ 300) {j : Nat} {x : Int32} (hj : j < 400) (hdg : decode cc pc = .ok (.bastore, 1)) {cells slots : Nat}
    (kk : ∀ (H : Heap) (locs : List Loc), cP G (cY S1 401 (upd (kF S1 401) j (vp_nar .byte x))) H → cD (cA G S s.heap.size) G (cY S1 401 (upd (kF S1 401) j (vp_nar .byte x))) → va_S (cA G S s.heap.size) s.heap H locs → W p l e R s m args below meth c H locs cells slots Q (F0 m (pc + 1) ls rest)) : W p l e R s m args below meth c H locs cells slots Q (F0 m pc ls (.int x :: .int (nI j) :: .ref (ga G 10) :: rest)) := by
  have hset : (cW G S1).set 10 (ga G 10, .inl (gB G, 400, .inl (upd (kF S1 401) j (vp_nar .byte x)))) = cW G (cY S1 401 (upd (kF S1 401) j (vp_nar .byte x))) := cset2 rfl rfl (fun k hk9 hk => match k, hk9, hk with | 0, _, h => rfl | 1, _, h => rfl | 2, _, h => rfl | 3, _, h => rfl | 4, _, h => rfl | 5, _, h => rfl | 6, _, h => rfl | 7, _, h => rfl | 8, _, h => rfl | 9, _, h => rfl | 10, _, h => absurd rfl h | 11, _, h => rfl | 12, _, h => rfl | k + 13, h9, _ => cY_row (by omega))
  refine va_bast hx hb hK hP hD hS 10 1 cw_10 rfl (vp_in_nI hj (by decide)) hdg (fun H1 l1 hP1 hD1 hS1 => ?_)
  rw [nI_clamp (by omega), hset] at hP1 hD1
  exact kk H1 l1 hP1 hD1 hS1
theorem c_bst11 (hx : p.tables.exec = Jvm.exec) (hb : c.code = cc) (hK : cK G s) (hP : cP G S1 H) (hD : cD (cA G S s.heap.size) G S1) (hS : va_S (cA G S s.heap.size) s.heap H locs) (hB : kB S1 ≤ 300) {j : Nat} {x : Int32} (hj : j < 200) (hdg : decode cc pc = .ok (.bastore, 1)) {cells slots : Nat}
    (kk : ∀ (H : Heap) (locs : List Loc), cP G (cY S1 402 (upd (kF S1 402) j (vp_nar .byte x))) H → cD (cA G S s.heap.size) G (cY S1 402 (upd (kF S1 402) j (vp_nar .byte x))) → va_S (cA G S s.heap.size) s.heap H locs → W p l e R s m args below meth c H locs cells slots Q (F0 m (pc + 1) ls rest)) : W p l e R s m args below meth c H locs cells slots Q (F0 m pc ls (.int x :: .int (nI j) :: .ref (ga G 11) :: rest)) := by
  have hset : (cW G S1).set 11 (ga G 11, .inl (gB G, 200, .inl (upd (kF S1 402) j (vp_nar .byte x)))) = cW G (cY S1 402 (upd (kF S1 402) j (vp_nar .byte x))) := cset2 rfl rfl (fun k hk9 hk => match k, hk9, hk with | 0, _, h => rfl | 1, _, h => rfl | 2, _, h => rfl | 3, _, h => rfl | 4, _, h => rfl | 5, _, h => rfl | 6, _, h => rfl | 7, _, h => rfl | 8, _, h => rfl | 9, _, h => rfl | 10, _, h => rfl | 11, _, h => absurd rfl h | 12, _, h => rfl | k + 13, h9, _ => cY_row (by omega))
  refine va_bast hx hb hK hP hD hS 11 1 cw_11 rfl (vp_in_nI hj (by decide)) hdg (fun H1 l1 hP1 hD1 hS1 => ?_)
  rw [nI_clamp (by omega), hset] at hP1 hD1
  exact kk H1 l1 hP1 hD1 hS1
end CY
def pv (i : Nat) : Int64 := [1000000000, 100000000, 10000000, 1000000, 100000, 10000, 1000, 100, 10, 1].getD i 0
theorem pv_nz : ∀ i, i < 10 → ¬ pv i = 0 := by decide +kernel
theorem pv_div : ∀ i, i < 10 → pv i / 10 = pv (i + 1) := by decide +kernel
theorem pv_ge : ∀ i, i < 10 → ¬ lg_cmp (pv i) 1 < 0 := by decide +kernel
theorem pv_10 : lg_cmp (pv 10) 1 < 0 := by decide +kernel

set_option maxHeartbeats 4000000 in
set_option maxRecDepth 100000 in
/-- clear -/
theorem s_clear_6 (l : Launch) (G : cG) (S : cS) (hC : CL S) (Hs : Heap) : Met l yX1_clear (wC yX1_clear cX1_clear 1 none) (cRm S 0 0) (cPc G S Hs [.ref (ga G 6)]) (cQv G S Hs (fun u => AW [] [200] S u ∧ (u.1 200 = nI 0))) (CC - PT S) (12 * (CC - PT S)) (cA G S Hs.size) := by
  refine Met.ofW (cc := cX1_clear) (maxL := 1) (ret := none) (by decide) rfl ?_
  intro p e s m args below meth c s₁ B hml hv
  obtain ⟨rfl, hsz, hP, hK, hD0, -⟩ := hv
  have hx := B.exec
  have hb := B.bytes
  have hr := B.returns
  have htu : ∀ w ∈ CU, w.before _ s = true := fun w h => atoms_spec (ws := (wC yX1_clear cX1_clear 1 none)) B.pre w (List.mem_cons_of_mem _ h)
  have hown : s.vm.findClass RX1 = some m.cls := findClass_of_methodNamed B.named
  have hlocks := B.notSynchronized
  subst hsz
  have hD : cD (cA G S s.heap.size) G S := cD_self hD0
  have hl := lv_entry ([.ref (ga G 6)]) (n := 1) (Nat.le_of_ble_eq_true rfl)
  rw [lg_entry_eq]
  generalize (lg_sl ([.ref (ga G 6)]) ++ List.replicate (1 - (lg_sl ([.ref (ga G 6)])).length) Slot.unset).toArray = ls at hl ⊢
  have hl : lv_has ls 1 [(0, .ref (ga G 6))] := hl
  obtain ⟨H, hHe⟩ : ∃ H : Heap, H = s.heap := ⟨_, rfl⟩
  rw [← hHe] at hP
  have hS : va_S (cA G S s.heap.size) s.heap H [] := by rw [hHe]; exact va_S.rf
  have hh : HS S S := HS.rf
  have hpp : PT S ≤ PT S := Nat.le_refl _
  have hB9 := hC.1
  refine W.heq hHe ?_
  refine c_ent (S := S) ?_
  refine lv_aload_n hx hb dX1_clear_0 rfl (lv_at hl 0 rfl) ?_
  refine lv_iconst (v := 0) hx hb dX1_clear_1 (by decide) ?_
  refine c_put6_1 (x := 0) hx hb htu hown hK hP hD hS (htu _ C_455) dX1_clear_2 (fun H locs hP hD hS => ?_)
  have S_1h : HS S (cO S 200 0) := hh
  have S_1c : CL (cO S 200 0) := hC
  have S_1p : PT S ≤ PT (cO S 200 0) := hpp
  refine c_eq (S1 := S) (S2 := cO S 200 0) rfl ?_
  have S_1w : AW [] [200] S (cO S 200 0) := (AW.o AW.rf (by decide))
  have hh := S_1h
  have hC := S_1c
  have hpp := S_1p
  exact c_vret hx hb hr hK hP hD hS hC hh hpp ⟨S_1w, cO_s⟩ dX1_clear_5 hlocks

set_option maxHeartbeats 4000000 in
set_option maxRecDepth 100000 in
/-- isFull -/
theorem s_isFull_6 (l : Launch) (G : cG) (S : cS) (sn : Nat) (hC : CL S) (hn : S.1 200 = nI sn) (hcap : sn ≤ 400) (Hs : Heap) : Met l yX1_isFull (wC yX1_isFull cX1_isFull 1 (some .boolean)) (cRm S 0 0) (cPc G S Hs [.ref (ga G 6)]) (cQi G S Hs (fun v u => AW [] [] S u ∧ (u = S ∧ ((v = 1 ∧ 400 ≤ sn) ∨ (v = 0 ∧ sn < 400))))) (CC - PT S) (12 * (CC - PT S)) (cA G S Hs.size) := by
  refine Met.ofW (cc := cX1_isFull) (maxL := 1) (ret := (some .boolean)) (by decide) rfl ?_
  intro p e s m args below meth c s₁ B hml hv
  obtain ⟨rfl, hsz, hP, hK, hD0, -⟩ := hv
  have hx := B.exec
  have hb := B.bytes
  have hr := B.returns
  have htu : ∀ w ∈ CU, w.before _ s = true := fun w h => atoms_spec (ws := (wC yX1_isFull cX1_isFull 1 (some .boolean))) B.pre w (List.mem_cons_of_mem _ h)
  have hown : s.vm.findClass RX1 = some m.cls := findClass_of_methodNamed B.named
  have hlocks := B.notSynchronized
  subst hsz
  have hD : cD (cA G S s.heap.size) G S := cD_self hD0
  have hl := lv_entry ([.ref (ga G 6)]) (n := 1) (Nat.le_of_ble_eq_true rfl)
  rw [lg_entry_eq]
  generalize (lg_sl ([.ref (ga G 6)]) ++ List.replicate (1 - (lg_sl ([.ref (ga G 6)])).length) Slot.unset).toArray = ls at hl ⊢
  have hl : lv_has ls 1 [(0, .ref (ga G 6))] := hl
  obtain ⟨H, hHe⟩ : ∃ H : Heap, H = s.heap := ⟨_, rfl⟩
  rw [← hHe] at hP
  have hS : va_S (cA G S s.heap.size) s.heap H [] := by rw [hHe]; exact va_S.rf
  have hh : HS S S := HS.rf
  have hpp : PT S ≤ PT S := Nat.le_refl _
  have hB9 := hC.1
  refine W.heq hHe ?_
  refine c_ent (S := S) ?_
  refine lv_aload_n hx hb dX1_isFull_0 rfl (lv_at hl 0 rfl) ?_
  refine va_get (D := gD G) (ci := 1) (v := .int (nI sn)) (C := RX1) (T := TX1) (N := 2) hx hb htu cu_in1 hown hK hP 6 cw_6 rfl 1 (by decide) (htu _ C_455) (fun _ h9 => h9) (m_v hn) dX1_isFull_1 ?_
  refine lv_aload_n hx hb dX1_isFull_4 rfl (lv_at hl 0 rfl) ?_
  refine va_get (D := gD G) (ci := 1) (v := .ref (ga G 9)) (C := RX1) (T := TX1) (N := 2) hx hb htu cu_in1 hown hK hP 6 cw_6 rfl 0 (by decide) (htu _ C_142) (fun _ h9 => h9) rfl dX1_isFull_5 ?_
  refine va_alen hx hb hK hP 9 1 cw_9 rfl (v := 400) rfl dX1_isFull_8 ?_
  refine lv_icmp_lt (tgt := 16) hx hb dX1_isFull_9 (by decide) (fun c_1 => ?_) (fun c_1 => ?_)
  · skip
    have nc_1 : sn < 400 := (nI_ltI (a := sn) (b := 400) (by omega) (by omega)).mp c_1
    refine lv_iconst (v := 0) hx hb dX1_isFull_16 (by decide) ?_
    exact c_zret (v := 0) hx hb hr hK hP hD hS hC hh hpp rfl ⟨AW.rf, ⟨rfl, Or.inr ⟨rfl, nc_1⟩⟩⟩ dX1_isFull_17 hlocks
  · skip
    have nc_1 : ¬ sn < 400 := fun h9 => c_1 ((nI_ltI (a := sn) (b := 400) (by omega) (by omega)).mpr h9)
    refine lv_iconst (v := 1) hx hb dX1_isFull_12 (by decide) ?_
    refine lv_goto (tgt := 17) hx hb dX1_isFull_13 (by decide) ?_
    exact c_zret (v := 1) hx hb hr hK hP hD hS hC hh hpp rfl ⟨AW.rf, ⟨rfl, Or.inl ⟨rfl, Nat.not_lt.mp nc_1⟩⟩⟩ dX1_isFull_17 hlocks

set_option maxHeartbeats 4000000 in
set_option maxRecDepth 100000 in
/-- put -/
theorem s_put_6 (l : Launch) (G : cG) (S : cS) (sn : Nat) (y : Int32) (hC : CL S) (hn : S.1 200 = nI sn) (hcap : sn ≤ 400) (Hs : Heap) : Met l yX1_put (wC yX1_put cX1_put 2 none) (cRm S 0 0) (cPc G S Hs [.ref (ga G 6), .int y]) (cQv G S Hs (fun u => AW [] [200] S u ∧ (∃ sm, u.1 200 = nI sm ∧ sn ≤ sm ∧ sm ≤ 400 ∧ (sn < 400 → sn < sm)))) (CC - PT S) (12 * (CC - PT S)) (cA G S Hs.size) := by
  refine Met.ofW (cc := cX1_put) (maxL := 2) (ret := none) (by decide) rfl ?_
  intro p e s m args below meth c s₁ B hml hv
  obtain ⟨rfl, hsz, hP, hK, hD0, -⟩ := hv
  have hx := B.exec
  have hb := B.bytes
  have hr := B.returns
  have htu : ∀ w ∈ CU, w.before _ s = true := fun w h => atoms_spec (ws := (wC yX1_put cX1_put 2 none)) B.pre w (List.mem_cons_of_mem _ h)
  have hown : s.vm.findClass RX1 = some m.cls := findClass_of_methodNamed B.named
  have hlocks := B.notSynchronized
  subst hsz
  have hD : cD (cA G S s.heap.size) G S := cD_self hD0
  have hl := lv_entry ([.ref (ga G 6), .int y]) (n := 2) (Nat.le_of_ble_eq_true rfl)
  rw [lg_entry_eq]
  generalize (lg_sl ([.ref (ga G 6), .int y]) ++ List.replicate (2 - (lg_sl ([.ref (ga G 6), .int y])).length) Slot.unset).toArray = ls at hl ⊢
  have hl : lv_has ls 2 [(0, .ref (ga G 6)), (1, .int y)] := hl
  obtain ⟨H, hHe⟩ : ∃ H : Heap, H = s.heap := ⟨_, rfl⟩
  rw [← hHe] at hP
  have hS : va_S (cA G S s.heap.size) s.heap H [] := by rw [hHe]; exact va_S.rf
  have hh : HS S S := HS.rf
  have hpp : PT S ≤ PT S := Nat.le_refl _
  have hB9 := hC.1
  refine W.heq hHe ?_
  refine c_ent (S := S) ?_
  refine lv_aload_n hx hb dX1_put_0 rfl (lv_at hl 0 rfl) ?_
  refine va_get (D := gD G) (ci := 1) (v := .int (nI sn)) (C := RX1) (T := TX1) (N := 2) hx hb htu cu_in1 hown hK hP 6 cw_6 rfl 1 (by decide) (htu _ C_455) (fun _ h9 => h9) (m_v hn) dX1_put_1 ?_
  refine lv_aload_n hx hb dX1_put_4 rfl (lv_at hl 0 rfl) ?_
  refine va_get (D := gD G) (ci := 1) (v := .ref (ga G 9)) (C := RX1) (T := TX1) (N := 2) hx hb htu cu_in1 hown hK hP 6 cw_6 rfl 0 (by decide) (htu _ C_142) (fun _ h9 => h9) rfl dX1_put_5 ?_
  refine va_alen hx hb hK hP 9 1 cw_9 rfl (v := 400) rfl dX1_put_8 ?_
  refine lv_icmp_lt (tgt := 13) hx hb dX1_put_9 (by decide) (fun c_1 => ?_) (fun c_1 => ?_)
  · skip
    have nc_1 : sn < 400 := (nI_ltI (a := sn) (b := 400) (by omega) (by omega)).mp c_1
    refine lv_aload_n hx hb dX1_put_13 rfl (lv_at hl 0 rfl) ?_
    refine va_get (D := gD G) (ci := 1) (v := .ref (ga G 9)) (C := RX1) (T := TX1) (N := 2) hx hb htu cu_in1 hown hK hP 6 cw_6 rfl 0 (by decide) (htu _ C_142) (fun _ h9 => h9) rfl dX1_put_14 ?_
    refine lv_aload_n hx hb dX1_put_17 rfl (lv_at hl 0 rfl) ?_
    refine va_get (D := gD G) (ci := 1) (v := .int (nI sn)) (C := RX1) (T := TX1) (N := 2) hx hb htu cu_in1 hown hK hP 6 cw_6 rfl 1 (by decide) (htu _ C_455) (fun _ h9 => h9) (m_v hn) dX1_put_18 ?_
    refine lv_iload_n hx hb dX1_put_21 rfl (lv_at hl 1 rfl) ?_
    refine lv_i2b hx hb dX1_put_22 (v := _) rfl ?_
    refine lv_topi (fun f_2 ef_2 => ?_)
    refine c_bst9 (x := f_2) (j := sn) hx hb hK hP hD hS (hC.1) (by omega) dX1_put_23 (fun H locs hP hD hS => ?_)
    have S_3h : HS S (cY S 400 (upd (kF S 400) sn (vp_nar .byte f_2))) := hh
    have S_3c : CL (cY S 400 (upd (kF S 400) sn (vp_nar .byte f_2))) := hC
    have S_3p : PT S ≤ PT (cY S 400 (upd (kF S 400) sn (vp_nar .byte f_2))) := hpp
    refine c_eq (S1 := S) (S2 := cY S 400 (upd (kF S 400) sn (vp_nar .byte f_2))) rfl ?_
    have S_3w : AW [] [200] S (cY S 400 (upd (kF S 400) sn (vp_nar .byte f_2))) := (AW.y AW.rf hC.1 (by decide) (by decide))
    have hh := S_3h
    have hC := S_3c
    have hpp := S_3p
    refine lv_aload_n hx hb dX1_put_24 rfl (lv_at hl 0 rfl) ?_
    refine lv_dup hx hb dX1_put_25 rfl ?_
    refine va_get (D := gD G) (ci := 1) (v := .int (nI sn)) (C := RX1) (T := TX1) (N := 2) hx hb htu cu_in1 hown hK hP 6 cw_6 rfl 1 (by decide) (htu _ C_455) (fun _ h9 => h9) (m_v hn) dX1_put_26 ?_
    refine lv_iconst (v := 1) hx hb dX1_put_29 (by decide) ?_
    refine lv_iadd hx hb dX1_put_30 ?_
    refine m_top (y := nI (sn + 1)) (nI_add sn 1) ?_
    refine c_put6_1 (x := (nI (sn + 1))) hx hb htu hown hK hP hD hS (htu _ C_455) dX1_put_31 (fun H locs hP hD hS => ?_)
    have S_4h : HS S (cO (cY S 400 (upd (kF S 400) sn (vp_nar .byte f_2))) 200 (nI (sn + 1))) := hh
    have S_4c : CL (cO (cY S 400 (upd (kF S 400) sn (vp_nar .byte f_2))) 200 (nI (sn + 1))) := hC
    have S_4p : PT S ≤ PT (cO (cY S 400 (upd (kF S 400) sn (vp_nar .byte f_2))) 200 (nI (sn + 1))) := hpp
    refine c_eq (S1 := (cY S 400 (upd (kF S 400) sn (vp_nar .byte f_2)))) (S2 := cO (cY S 400 (upd (kF S 400) sn (vp_nar .byte f_2))) 200 (nI (sn + 1))) rfl ?_
    have S_4w : AW [] [200] S (cO (cY S 400 (upd (kF S 400) sn (vp_nar .byte f_2))) 200 (nI (sn + 1))) := (AW.o S_3w (by decide))
    have hh := S_4h
    have hC := S_4c
    have hpp := S_4p
    exact c_vret hx hb hr hK hP hD hS hC hh hpp ⟨S_4w, ⟨sn + 1, cO_s, Nat.le_succ _, nc_1, fun _ => Nat.lt_succ_self _⟩⟩ dX1_put_34 hlocks
  · skip
    have nc_1 : ¬ sn < 400 := fun h9 => c_1 ((nI_ltI (a := sn) (b := 400) (by omega) (by omega)).mpr h9)
    exact c_vret hx hb hr hK hP hD hS hC hh hpp ⟨AW.rf, ⟨sn, hn, Nat.le_refl _, hcap, fun h => absurd h nc_1⟩⟩ dX1_put_12 hlocks

set_option maxHeartbeats 4000000 in
set_option maxRecDepth 100000 in
/-- putLetter -/
theorem s_putLetter_6 (l : Launch) (G : cG) (S : cS) (sn : Nat) (y : Int32) (hC : CL S) (hn : S.1 200 = nI sn) (hcap : sn ≤ 400) (Hs : Heap) : Met l yX1_putLetter (wC yX1_putLetter cX1_putLetter 2 none) (cRm S 1 21) (cPc G S Hs [.ref (ga G 6), .int y]) (cQv G S Hs (fun u => AW [] [200] S u ∧ (∃ sm, u.1 200 = nI sm ∧ sn ≤ sm ∧ sm ≤ 400 ∧ (sn < 400 → sn < sm)))) (CC - PT S) (12 * (CC - PT S)) (cA G S Hs.size) := by
  refine Met.ofW (cc := cX1_putLetter) (maxL := 2) (ret := none) (by decide) rfl ?_
  intro p e s m args below meth c s₁ B hml hv
  obtain ⟨rfl, hsz, hP, hK, hD0, -⟩ := hv
  have hx := B.exec
  have hb := B.bytes
  have hr := B.returns
  have htu : ∀ w ∈ CU, w.before _ s = true := fun w h => atoms_spec (ws := (wC yX1_putLetter cX1_putLetter 2 none)) B.pre w (List.mem_cons_of_mem _ h)
  have hown : s.vm.findClass RX1 = some m.cls := findClass_of_methodNamed B.named
  have hlocks := B.notSynchronized
  subst hsz
  have hD : cD (cA G S s.heap.size) G S := cD_self hD0
  have hl := lv_entry ([.ref (ga G 6), .int y]) (n := 2) (Nat.le_of_ble_eq_true rfl)
  rw [lg_entry_eq]
  generalize (lg_sl ([.ref (ga G 6), .int y]) ++ List.replicate (2 - (lg_sl ([.ref (ga G 6), .int y])).length) Slot.unset).toArray = ls at hl ⊢
  have hl : lv_has ls 2 [(0, .ref (ga G 6)), (1, .int y)] := hl
  obtain ⟨H, hHe⟩ : ∃ H : Heap, H = s.heap := ⟨_, rfl⟩
  rw [← hHe] at hP
  have hS : va_S (cA G S s.heap.size) s.heap H [] := by rw [hHe]; exact va_S.rf
  have hh : HS S S := HS.rf
  have hpp : PT S ≤ PT S := Nat.le_refl _
  have hB9 := hC.1
  refine W.heq hHe ?_
  refine c_ent (S := S) ?_
  refine lv_aload_n hx hb dX1_putLetter_0 rfl (lv_at hl 0 rfl) ?_
  refine lv_bipush (v := 97) hx hb dX1_putLetter_1 (by decide) ?_
  refine lv_iload_n hx hb dX1_putLetter_3 rfl (lv_at hl 1 rfl) ?_
  refine lv_iadd hx hb dX1_putLetter_4 ?_
  refine lv_topi (fun f_1 ef_1 => ?_)
  refine lv_i2c hx hb dX1_putLetter_5 (v := _) rfl ?_
  refine lv_topi (fun f_2 ef_2 => ?_)
  have hC0 := hC
  refine c_cv (c_runV (As := [.int f_2]) (rest := []) (q0 := 6) (ci := 1) ⟨hx, hb, hml, hown, htu⟩ (s_put_6 l G S sn f_2 hC hn hcap H) (cwV 1 htu hU_X1_25 rfl rfl rfl (by decide +kernel) ⟨Nat.le_of_ble_eq_true rfl, Nat.le_of_ble_eq_true rfl⟩) hP hK hD hC hpp cw_6 rfl rfl hl.1 rfl (lv_room (Nat.le_of_ble_eq_true rfl)) dX1_putLetter_6) hS hD hh hpp (fun S_4 H locs hw_5 hP hD hS hC hh hs_6 hpp => ?_)
  try dsimp only at hw_5
  have aw_7 : AW [] [200] S S_4 := hw_5.1
  have aw_7t : AW [] [200] S S_4 := AW.rf.tr (aw_7.mono (by decide) (by decide))
  obtain ⟨sg_8, sg_81, sg_82, sg_83, sg_84⟩ := hw_5.2
  exact c_vret hx hb hr hK hP hD hS hC hh hpp ⟨aw_7t, ⟨sg_8, sg_81, sg_82, sg_83, sg_84⟩⟩ dX1_putLetter_9 hlocks

set_option maxHeartbeats 4000000 in
set_option maxRecDepth 100000 in
/-- putFigures -/
theorem s_putFigures_6 (l : Launch) (G : cG) (S : cS) (sn : Nat) (y : Int32) (hC : CL S) (hn : S.1 200 = nI sn) (hcap : sn ≤ 400) (Hs : Heap) : Met l yX1_putFigures (wC yX1_putFigures cX1_putFigures 9 none) (cRm S 1 21) (cPc G S Hs [.ref (ga G 6), .int y]) (cQv G S Hs (fun u => AW [] [200] S u ∧ (∃ sm, u.1 200 = nI sm ∧ sn ≤ sm ∧ sm ≤ 400))) (CC - PT S) (12 * (CC - PT S)) (cA G S Hs.size) := by
  refine Met.ofW (cc := cX1_putFigures) (maxL := 9) (ret := none) (by decide) rfl ?_
  intro p e s m args below meth c s₁ B hml hv
  obtain ⟨rfl, hsz, hP, hK, hD0, -⟩ := hv
  have hx := B.exec
  have hb := B.bytes
  have hr := B.returns
  have htu : ∀ w ∈ CU, w.before _ s = true := fun w h => atoms_spec (ws := (wC yX1_putFigures cX1_putFigures 9 none)) B.pre w (List.mem_cons_of_mem _ h)
  have hown : s.vm.findClass RX1 = some m.cls := findClass_of_methodNamed B.named
  have hlocks := B.notSynchronized
  subst hsz
  have hD : cD (cA G S s.heap.size) G S := cD_self hD0
  have hl := lv_entry ([.ref (ga G 6), .int y]) (n := 9) (Nat.le_of_ble_eq_true rfl)
  rw [lg_entry_eq]
  generalize (lg_sl ([.ref (ga G 6), .int y]) ++ List.replicate (9 - (lg_sl ([.ref (ga G 6), .int y])).length) Slot.unset).toArray = ls at hl ⊢
  have hl : lv_has ls 9 [(0, .ref (ga G 6)), (1, .int y)] := hl
  obtain ⟨H, hHe⟩ : ∃ H : Heap, H = s.heap := ⟨_, rfl⟩
  rw [← hHe] at hP
  have hS : va_S (cA G S s.heap.size) s.heap H [] := by rw [hHe]; exact va_S.rf
  have hh : HS S S := HS.rf
  have hpp : PT S ≤ PT S := Nat.le_refl _
  have hB9 := hC.1
  refine W.heq hHe ?_
  refine c_ent (S := S) ?_
  refine lv_iload_n hx hb dX1_putFigures_0 rfl (lv_at hl 1 rfl) ?_
  refine lv_i2l hx hb dX1_putFigures_1 (v := _) rfl ?_
  refine lv_topl (fun f_1 ef_1 => ?_)
  refine lv_lstore_n (lv' := [(2, .long f_1), (0, .ref (ga G 6)), (1, .int y)]) hx hb dX1_putFigures_2 rfl hl (by decide) rfl (fun ls hl => ?_)
  refine lv_lload_n hx hb dX1_putFigures_3 rfl (lv_at hl 0 rfl) ?_
  refine lv_lconst (v := 0) hx hb dX1_putFigures_4 (by decide) ?_
  refine W.lcmp hx hb dX1_putFigures_5 ?_
  refine lv_topi (fun f_2 ef_2 => ?_)
  refine lv_if_ge (tgt := 18) hx hb dX1_putFigures_6 (by decide) (fun c_3 => ?_) (fun c_3 => ?_)
  · skip
    refine lv_iconst (v := 0) hx hb dX1_putFigures_18 (by decide) ?_
    refine lv_istore (lv' := [(4, .int 0), (2, .long f_1), (0, .ref (ga G 6)), (1, .int y)]) hx hb dX1_putFigures_19 hl (by decide) rfl (fun ls hl => ?_)
    refine lv_ldc2 (v := 1000000000) hx hb hown (htu _ C_476) dX1_putFigures_21 ?_
    refine lv_lstore (lv' := [(5, .long 1000000000), (4, .int 0), (2, .long f_1), (0, .ref (ga G 6)), (1, .int y)]) hx hb dX1_putFigures_24 hl (by decide) rfl (fun ls hl => ?_)
    refine w_loop (fun j H locs k sl g => ∃ (S1 : cS) (bg : Int32) (i : Nat) (sq : Nat) (ls : Array Slot), CL S1 ∧ HS S S1 ∧ PT S ≤ PT S1 ∧ AW [] [200] S S1 ∧ i + j = 10 ∧ S1.1 200 = nI sq ∧ sn ≤ sq ∧ sq ≤ 400 ∧ k = PT S1 - PT S ∧ sl = 12 * (PT S1 - PT S) ∧ cP G S1 H ∧ cD (cA G S s.heap.size) G S1 ∧ va_S (cA G S s.heap.size) s.heap H locs ∧ lv_has ls 9 [(0, .ref (ga G 6)), (1, .int y), (2, .long f_1), (4, .int bg), (5, .long ((pv i)))] ∧ g = F0 m 26 ls []) ?_ ?_ 10 _ _ _ _ _ ⟨S, 0, 0, sn, ls, hC, hh, hpp, AW.rf, by omega, hn, Nat.le_refl _, hcap, rfl, rfl, hP, hD, hS, lv_sub hl [3, 4, 2, 1, 0] rfl, rfl⟩
    · intro H locs k sl g hI
      obtain ⟨S1, bg, i, sq, ls, hC, hh, hpp, hAW, hp0, hp1, hp2, hp3, rfl, rfl, hP, hD, hS, hl, rfl⟩ := hI
      refine lv_lload hx hb dX1_putFigures_26 (lv_at hl 4 rfl) ?_
      refine lv_lconst (v := 1) hx hb dX1_putFigures_28 (by decide) ?_
      refine W.lcmp hx hb dX1_putFigures_29 ?_
      refine lv_topi (fun f_4 ef_4 => ?_)
      refine lv_if_lt (tgt := 97) hx hb dX1_putFigures_30 (by decide) (fun c_5 => ?_) (fun c_5 => absurd (by rw [ef_4, show i = 10 by omega]; exact pv_10) c_5)
      exact c_vret hx hb hr hK hP hD hS hC hh hpp ⟨hAW, ⟨sq, hp1, hp2, hp3⟩⟩ dX1_putFigures_97 hlocks
    · intro j ih9 H locs k sl g hI
      obtain ⟨S1, bg, i, sq, ls, hC, hh, hpp, hAW, hp0, hp1, hp2, hp3, rfl, rfl, hP, hD, hS, hl, rfl⟩ := hI
      refine lv_lload hx hb dX1_putFigures_26 (lv_at hl 4 rfl) ?_
      refine lv_lconst (v := 1) hx hb dX1_putFigures_28 (by decide) ?_
      refine W.lcmp hx hb dX1_putFigures_29 ?_
      refine lv_topi (fun f_6 ef_6 => ?_)
      refine lv_if_lt (tgt := 97) hx hb dX1_putFigures_30 (by decide) (fun c_7 => absurd c_7 (by rw [ef_6]; exact pv_ge i (by omega))) (fun c_7 => ?_)
      refine lv_lload_n hx hb dX1_putFigures_33 rfl (lv_at hl 2 rfl) ?_
      refine lv_lload hx hb dX1_putFigures_34 (lv_at hl 4 rfl) ?_
      refine lv_ldiv hx hb dX1_putFigures_36 (pv_nz i (by omega)) ?_
      refine lv_topl (fun f_8 ef_8 => ?_)
      refine lv_ldc2 (v := 10) hx hb hown (htu _ C_477) dX1_putFigures_37 ?_
      refine lv_lrem hx hb dX1_putFigures_40 (by decide) ?_
      refine lv_topl (fun f_9 ef_9 => ?_)
      refine lv_lstore (lv' := [(7, .long f_9), (0, .ref (ga G 6)), (1, .int y), (2, .long f_1), (4, .int bg), (5, .long ((pv i)))]) hx hb dX1_putFigures_41 hl (by decide) rfl (fun ls hl => ?_)
      refine lv_iload hx hb dX1_putFigures_43 (lv_at hl 4 rfl) ?_
      refine lv_if_ne (tgt := 62) hx hb dX1_putFigures_45 (by decide) (fun c_10 => ?_) (fun c_10 => ?_)
      · skip
        refine lv_iconst (v := 1) hx hb dX1_putFigures_62 (by decide) ?_
        refine lv_goto (tgt := 67) hx hb dX1_putFigures_63 (by decide) ?_
        refine lv_istore (lv' := [(4, .int 1), (7, .long f_9), (0, .ref (ga G 6)), (1, .int y), (2, .long f_1), (5, .long ((pv i)))]) hx hb dX1_putFigures_67 hl (by decide) rfl (fun ls hl => ?_)
        refine lv_iload hx hb dX1_putFigures_69 (lv_at hl 0 rfl) ?_
        refine lv_if_eq (tgt := 86) hx hb dX1_putFigures_71 (by decide) (fun c_11 => absurd c_11 (by decide)) (fun c_11 => ?_)
        refine lv_aload_n hx hb dX1_putFigures_74 rfl (lv_at hl 2 rfl) ?_
        refine lv_ldc2 (v := 48) hx hb hown (htu _ C_478) dX1_putFigures_75 ?_
        refine lv_lload hx hb dX1_putFigures_78 (lv_at hl 1 rfl) ?_
        refine lv_ladd hx hb dX1_putFigures_80 ?_
        refine lv_topl (fun f_12 ef_12 => ?_)
        refine lv_l2i hx hb dX1_putFigures_81 (v := _) rfl ?_
        refine lv_topi (fun f_13 ef_13 => ?_)
        refine lv_i2c hx hb dX1_putFigures_82 (v := _) rfl ?_
        refine lv_topi (fun f_14 ef_14 => ?_)
        have hC0 := hC
        refine c_cv (c_runV (As := [.int f_14]) (rest := []) (q0 := 6) (ci := 1) ⟨hx, hb, hml, hown, htu⟩ (s_put_6 l G S1 sq f_14 hC hp1 hp3 H) (cwV 1 htu hU_X1_25 rfl rfl rfl (by decide +kernel) ⟨Nat.le_of_ble_eq_true rfl, Nat.le_of_ble_eq_true rfl⟩) hP hK hD hC hpp cw_6 rfl rfl hl.1 rfl (lv_room (Nat.le_of_ble_eq_true rfl)) dX1_putFigures_83) hS hD hh hpp (fun S_16 H locs hw_17 hP hD hS hC hh hs_18 hpp => ?_)
        try dsimp only at hw_17
        have aw_19 : AW [] [200] S1 S_16 := hw_17.1
        have aw_19t : AW [] [200] S S_16 := hAW.tr (aw_19.mono (by decide) (by decide))
        obtain ⟨sg_20, sg_201, sg_202, sg_203, sg_204⟩ := hw_17.2
        refine lv_lload hx hb dX1_putFigures_86 (lv_at hl 5 rfl) ?_
        refine lv_ldc2 (v := 10) hx hb hown (htu _ C_477) dX1_putFigures_88 ?_
        refine lv_ldiv hx hb dX1_putFigures_91 (by decide) ?_
        rw [pv_div i (by omega)]
        refine lv_lstore (lv' := [(5, .long ((pv (i + 1)))), (4, .int 1), (7, .long f_9), (0, .ref (ga G 6)), (1, .int y), (2, .long f_1)]) hx hb dX1_putFigures_92 hl (by decide) rfl (fun ls hl => ?_)
        refine lv_goto (tgt := 26) hx hb dX1_putFigures_94 (by decide) ?_
        exact ih9 _ _ _ _ _ ⟨S_16, 1, i + 1, sg_20, ls, hC, hh, hpp, aw_19t, by omega, sg_201, (Nat.le_trans hp2 sg_202), sg_203, rfl, rfl, hP, hD, hS, lv_sub hl [3, 4, 5, 1, 0] rfl, rfl⟩
      · skip
        refine lv_lload hx hb dX1_putFigures_48 (lv_at hl 0 rfl) ?_
        refine lv_lconst (v := 0) hx hb dX1_putFigures_50 (by decide) ?_
        refine W.lcmp hx hb dX1_putFigures_51 ?_
        refine lv_topi (fun f_21 ef_21 => ?_)
        refine lv_if_ne (tgt := 62) hx hb dX1_putFigures_52 (by decide) (fun c_22 => ?_) (fun c_22 => ?_)
        · skip
          refine lv_iconst (v := 1) hx hb dX1_putFigures_62 (by decide) ?_
          refine lv_goto (tgt := 67) hx hb dX1_putFigures_63 (by decide) ?_
          refine lv_istore (lv' := [(4, .int 1), (7, .long f_9), (0, .ref (ga G 6)), (1, .int y), (2, .long f_1), (5, .long ((pv i)))]) hx hb dX1_putFigures_67 hl (by decide) rfl (fun ls hl => ?_)
          refine lv_iload hx hb dX1_putFigures_69 (lv_at hl 0 rfl) ?_
          refine lv_if_eq (tgt := 86) hx hb dX1_putFigures_71 (by decide) (fun c_23 => absurd c_23 (by decide)) (fun c_23 => ?_)
          refine lv_aload_n hx hb dX1_putFigures_74 rfl (lv_at hl 2 rfl) ?_
          refine lv_ldc2 (v := 48) hx hb hown (htu _ C_478) dX1_putFigures_75 ?_
          refine lv_lload hx hb dX1_putFigures_78 (lv_at hl 1 rfl) ?_
          refine lv_ladd hx hb dX1_putFigures_80 ?_
          refine lv_topl (fun f_24 ef_24 => ?_)
          refine lv_l2i hx hb dX1_putFigures_81 (v := _) rfl ?_
          refine lv_topi (fun f_25 ef_25 => ?_)
          refine lv_i2c hx hb dX1_putFigures_82 (v := _) rfl ?_
          refine lv_topi (fun f_26 ef_26 => ?_)
          have hC0 := hC
          refine c_cv (c_runV (As := [.int f_26]) (rest := []) (q0 := 6) (ci := 1) ⟨hx, hb, hml, hown, htu⟩ (s_put_6 l G S1 sq f_26 hC hp1 hp3 H) (cwV 1 htu hU_X1_25 rfl rfl rfl (by decide +kernel) ⟨Nat.le_of_ble_eq_true rfl, Nat.le_of_ble_eq_true rfl⟩) hP hK hD hC hpp cw_6 rfl rfl hl.1 rfl (lv_room (Nat.le_of_ble_eq_true rfl)) dX1_putFigures_83) hS hD hh hpp (fun S_28 H locs hw_29 hP hD hS hC hh hs_30 hpp => ?_)
          try dsimp only at hw_29
          have aw_31 : AW [] [200] S1 S_28 := hw_29.1
          have aw_31t : AW [] [200] S S_28 := hAW.tr (aw_31.mono (by decide) (by decide))
          obtain ⟨sg_32, sg_321, sg_322, sg_323, sg_324⟩ := hw_29.2
          refine lv_lload hx hb dX1_putFigures_86 (lv_at hl 5 rfl) ?_
          refine lv_ldc2 (v := 10) hx hb hown (htu _ C_477) dX1_putFigures_88 ?_
          refine lv_ldiv hx hb dX1_putFigures_91 (by decide) ?_
          rw [pv_div i (by omega)]
          refine lv_lstore (lv' := [(5, .long ((pv (i + 1)))), (4, .int 1), (7, .long f_9), (0, .ref (ga G 6)), (1, .int y), (2, .long f_1)]) hx hb dX1_putFigures_92 hl (by decide) rfl (fun ls hl => ?_)
          refine lv_goto (tgt := 26) hx hb dX1_putFigures_94 (by decide) ?_
          exact ih9 _ _ _ _ _ ⟨S_28, 1, i + 1, sg_32, ls, hC, hh, hpp, aw_31t, by omega, sg_321, (Nat.le_trans hp2 sg_322), sg_323, rfl, rfl, hP, hD, hS, lv_sub hl [3, 4, 5, 1, 0] rfl, rfl⟩
        · skip
          refine lv_lload hx hb dX1_putFigures_55 (lv_at hl 5 rfl) ?_
          refine lv_lconst (v := 1) hx hb dX1_putFigures_57 (by decide) ?_
          refine W.lcmp hx hb dX1_putFigures_58 ?_
          refine lv_topi (fun f_33 ef_33 => ?_)
          refine lv_if_ne (tgt := 66) hx hb dX1_putFigures_59 (by decide) (fun c_34 => ?_) (fun c_34 => ?_)
          · skip
            refine lv_iconst (v := 0) hx hb dX1_putFigures_66 (by decide) ?_
            refine lv_istore (lv' := [(4, .int 0), (7, .long f_9), (0, .ref (ga G 6)), (1, .int y), (2, .long f_1), (5, .long ((pv i)))]) hx hb dX1_putFigures_67 hl (by decide) rfl (fun ls hl => ?_)
            refine lv_iload hx hb dX1_putFigures_69 (lv_at hl 0 rfl) ?_
            refine lv_if_eq (tgt := 86) hx hb dX1_putFigures_71 (by decide) (fun c_35 => ?_) (fun c_35 => absurd (by decide) c_35)
            refine lv_lload hx hb dX1_putFigures_86 (lv_at hl 5 rfl) ?_
            refine lv_ldc2 (v := 10) hx hb hown (htu _ C_477) dX1_putFigures_88 ?_
            refine lv_ldiv hx hb dX1_putFigures_91 (by decide) ?_
            rw [pv_div i (by omega)]
            refine lv_lstore (lv' := [(5, .long ((pv (i + 1)))), (4, .int 0), (7, .long f_9), (0, .ref (ga G 6)), (1, .int y), (2, .long f_1)]) hx hb dX1_putFigures_92 hl (by decide) rfl (fun ls hl => ?_)
            refine lv_goto (tgt := 26) hx hb dX1_putFigures_94 (by decide) ?_
            exact ih9 _ _ _ _ _ ⟨S1, 0, i + 1, sq, ls, hC, hh, hpp, hAW, by omega, hp1, hp2, hp3, rfl, rfl, hP, hD, hS, lv_sub hl [3, 4, 5, 1, 0] rfl, rfl⟩
          · skip
            refine lv_iconst (v := 1) hx hb dX1_putFigures_62 (by decide) ?_
            refine lv_goto (tgt := 67) hx hb dX1_putFigures_63 (by decide) ?_
            refine lv_istore (lv' := [(4, .int 1), (7, .long f_9), (0, .ref (ga G 6)), (1, .int y), (2, .long f_1), (5, .long ((pv i)))]) hx hb dX1_putFigures_67 hl (by decide) rfl (fun ls hl => ?_)
            refine lv_iload hx hb dX1_putFigures_69 (lv_at hl 0 rfl) ?_
            refine lv_if_eq (tgt := 86) hx hb dX1_putFigures_71 (by decide) (fun c_36 => absurd c_36 (by decide)) (fun c_36 => ?_)
            refine lv_aload_n hx hb dX1_putFigures_74 rfl (lv_at hl 2 rfl) ?_
            refine lv_ldc2 (v := 48) hx hb hown (htu _ C_478) dX1_putFigures_75 ?_
            refine lv_lload hx hb dX1_putFigures_78 (lv_at hl 1 rfl) ?_
            refine lv_ladd hx hb dX1_putFigures_80 ?_
            refine lv_topl (fun f_37 ef_37 => ?_)
            refine lv_l2i hx hb dX1_putFigures_81 (v := _) rfl ?_
            refine lv_topi (fun f_38 ef_38 => ?_)
            refine lv_i2c hx hb dX1_putFigures_82 (v := _) rfl ?_
            refine lv_topi (fun f_39 ef_39 => ?_)
            have hC0 := hC
            refine c_cv (c_runV (As := [.int f_39]) (rest := []) (q0 := 6) (ci := 1) ⟨hx, hb, hml, hown, htu⟩ (s_put_6 l G S1 sq f_39 hC hp1 hp3 H) (cwV 1 htu hU_X1_25 rfl rfl rfl (by decide +kernel) ⟨Nat.le_of_ble_eq_true rfl, Nat.le_of_ble_eq_true rfl⟩) hP hK hD hC hpp cw_6 rfl rfl hl.1 rfl (lv_room (Nat.le_of_ble_eq_true rfl)) dX1_putFigures_83) hS hD hh hpp (fun S_41 H locs hw_42 hP hD hS hC hh hs_43 hpp => ?_)
            try dsimp only at hw_42
            have aw_44 : AW [] [200] S1 S_41 := hw_42.1
            have aw_44t : AW [] [200] S S_41 := hAW.tr (aw_44.mono (by decide) (by decide))
            obtain ⟨sg_45, sg_451, sg_452, sg_453, sg_454⟩ := hw_42.2
            refine lv_lload hx hb dX1_putFigures_86 (lv_at hl 5 rfl) ?_
            refine lv_ldc2 (v := 10) hx hb hown (htu _ C_477) dX1_putFigures_88 ?_
            refine lv_ldiv hx hb dX1_putFigures_91 (by decide) ?_
            rw [pv_div i (by omega)]
            refine lv_lstore (lv' := [(5, .long ((pv (i + 1)))), (4, .int 1), (7, .long f_9), (0, .ref (ga G 6)), (1, .int y), (2, .long f_1)]) hx hb dX1_putFigures_92 hl (by decide) rfl (fun ls hl => ?_)
            refine lv_goto (tgt := 26) hx hb dX1_putFigures_94 (by decide) ?_
            exact ih9 _ _ _ _ _ ⟨S_41, 1, i + 1, sg_45, ls, hC, hh, hpp, aw_44t, by omega, sg_451, (Nat.le_trans hp2 sg_452), sg_453, rfl, rfl, hP, hD, hS, lv_sub hl [3, 4, 5, 1, 0] rfl, rfl⟩
  · skip
    refine lv_aload_n hx hb dX1_putFigures_9 rfl (lv_at hl 1 rfl) ?_
    refine lv_bipush (v := 45) hx hb dX1_putFigures_10 (by decide) ?_
    have hC0 := hC
    refine c_cv (c_runV (As := [.int 45]) (rest := []) (q0 := 6) (ci := 1) ⟨hx, hb, hml, hown, htu⟩ (s_put_6 l G S sn 45 hC hn hcap H) (cwV 1 htu hU_X1_25 rfl rfl rfl (by decide +kernel) ⟨Nat.le_of_ble_eq_true rfl, Nat.le_of_ble_eq_true rfl⟩) hP hK hD hC hpp cw_6 rfl rfl hl.1 rfl (lv_room (Nat.le_of_ble_eq_true rfl)) dX1_putFigures_12) hS hD hh hpp (fun S_47 H locs hw_48 hP hD hS hC hh hs_49 hpp => ?_)
    try dsimp only at hw_48
    have aw_50 : AW [] [200] S S_47 := hw_48.1
    have aw_50t : AW [] [200] S S_47 := AW.rf.tr (aw_50.mono (by decide) (by decide))
    obtain ⟨sg_51, sg_511, sg_512, sg_513, sg_514⟩ := hw_48.2
    refine lv_lload_n hx hb dX1_putFigures_15 rfl (lv_at hl 0 rfl) ?_
    refine lv_lneg hx hb dX1_putFigures_16 ?_
    refine lv_topl (fun f_52 ef_52 => ?_)
    refine lv_lstore_n (lv' := [(2, .long f_52), (0, .ref (ga G 6)), (1, .int y)]) hx hb dX1_putFigures_17 rfl hl (by decide) rfl (fun ls hl => ?_)
    refine lv_iconst (v := 0) hx hb dX1_putFigures_18 (by decide) ?_
    refine lv_istore (lv' := [(4, .int 0), (2, .long f_52), (0, .ref (ga G 6)), (1, .int y)]) hx hb dX1_putFigures_19 hl (by decide) rfl (fun ls hl => ?_)
    refine lv_ldc2 (v := 1000000000) hx hb hown (htu _ C_476) dX1_putFigures_21 ?_
    refine lv_lstore (lv' := [(5, .long 1000000000), (4, .int 0), (2, .long f_52), (0, .ref (ga G 6)), (1, .int y)]) hx hb dX1_putFigures_24 hl (by decide) rfl (fun ls hl => ?_)
    refine w_loop (fun j H locs k sl g => ∃ (S1 : cS) (bg : Int32) (i : Nat) (sq : Nat) (ls : Array Slot), CL S1 ∧ HS S S1 ∧ PT S ≤ PT S1 ∧ AW [] [200] S S1 ∧ i + j = 10 ∧ S1.1 200 = nI sq ∧ sn ≤ sq ∧ sq ≤ 400 ∧ k = PT S1 - PT S ∧ sl = 12 * (PT S1 - PT S) ∧ cP G S1 H ∧ cD (cA G S s.heap.size) G S1 ∧ va_S (cA G S s.heap.size) s.heap H locs ∧ lv_has ls 9 [(0, .ref (ga G 6)), (1, .int y), (2, .long f_52), (4, .int bg), (5, .long ((pv i)))] ∧ g = F0 m 26 ls []) ?_ ?_ 10 _ _ _ _ _ ⟨S_47, 0, 0, sg_51, ls, hC, hh, hpp, aw_50t, by omega, sg_511, sg_512, sg_513, rfl, rfl, hP, hD, hS, lv_sub hl [3, 4, 2, 1, 0] rfl, rfl⟩
    · intro H locs k sl g hI
      obtain ⟨S1, bg, i, sq, ls, hC, hh, hpp, hAW, hp0, hp1, hp2, hp3, rfl, rfl, hP, hD, hS, hl, rfl⟩ := hI
      refine lv_lload hx hb dX1_putFigures_26 (lv_at hl 4 rfl) ?_
      refine lv_lconst (v := 1) hx hb dX1_putFigures_28 (by decide) ?_
      refine W.lcmp hx hb dX1_putFigures_29 ?_
      refine lv_topi (fun f_53 ef_53 => ?_)
      refine lv_if_lt (tgt := 97) hx hb dX1_putFigures_30 (by decide) (fun c_54 => ?_) (fun c_54 => absurd (by rw [ef_53, show i = 10 by omega]; exact pv_10) c_54)
      exact c_vret hx hb hr hK hP hD hS hC hh hpp ⟨hAW, ⟨sq, hp1, hp2, hp3⟩⟩ dX1_putFigures_97 hlocks
    · intro j ih9 H locs k sl g hI
      obtain ⟨S1, bg, i, sq, ls, hC, hh, hpp, hAW, hp0, hp1, hp2, hp3, rfl, rfl, hP, hD, hS, hl, rfl⟩ := hI
      refine lv_lload hx hb dX1_putFigures_26 (lv_at hl 4 rfl) ?_
      refine lv_lconst (v := 1) hx hb dX1_putFigures_28 (by decide) ?_
      refine W.lcmp hx hb dX1_putFigures_29 ?_
      refine lv_topi (fun f_55 ef_55 => ?_)
      refine lv_if_lt (tgt := 97) hx hb dX1_putFigures_30 (by decide) (fun c_56 => absurd c_56 (by rw [ef_55]; exact pv_ge i (by omega))) (fun c_56 => ?_)
      refine lv_lload_n hx hb dX1_putFigures_33 rfl (lv_at hl 2 rfl) ?_
      refine lv_lload hx hb dX1_putFigures_34 (lv_at hl 4 rfl) ?_
      refine lv_ldiv hx hb dX1_putFigures_36 (pv_nz i (by omega)) ?_
      refine lv_topl (fun f_57 ef_57 => ?_)
      refine lv_ldc2 (v := 10) hx hb hown (htu _ C_477) dX1_putFigures_37 ?_
      refine lv_lrem hx hb dX1_putFigures_40 (by decide) ?_
      refine lv_topl (fun f_58 ef_58 => ?_)
      refine lv_lstore (lv' := [(7, .long f_58), (0, .ref (ga G 6)), (1, .int y), (2, .long f_52), (4, .int bg), (5, .long ((pv i)))]) hx hb dX1_putFigures_41 hl (by decide) rfl (fun ls hl => ?_)
      refine lv_iload hx hb dX1_putFigures_43 (lv_at hl 4 rfl) ?_
      refine lv_if_ne (tgt := 62) hx hb dX1_putFigures_45 (by decide) (fun c_59 => ?_) (fun c_59 => ?_)
      · skip
        refine lv_iconst (v := 1) hx hb dX1_putFigures_62 (by decide) ?_
        refine lv_goto (tgt := 67) hx hb dX1_putFigures_63 (by decide) ?_
        refine lv_istore (lv' := [(4, .int 1), (7, .long f_58), (0, .ref (ga G 6)), (1, .int y), (2, .long f_52), (5, .long ((pv i)))]) hx hb dX1_putFigures_67 hl (by decide) rfl (fun ls hl => ?_)
        refine lv_iload hx hb dX1_putFigures_69 (lv_at hl 0 rfl) ?_
        refine lv_if_eq (tgt := 86) hx hb dX1_putFigures_71 (by decide) (fun c_60 => absurd c_60 (by decide)) (fun c_60 => ?_)
        refine lv_aload_n hx hb dX1_putFigures_74 rfl (lv_at hl 2 rfl) ?_
        refine lv_ldc2 (v := 48) hx hb hown (htu _ C_478) dX1_putFigures_75 ?_
        refine lv_lload hx hb dX1_putFigures_78 (lv_at hl 1 rfl) ?_
        refine lv_ladd hx hb dX1_putFigures_80 ?_
        refine lv_topl (fun f_61 ef_61 => ?_)
        refine lv_l2i hx hb dX1_putFigures_81 (v := _) rfl ?_
        refine lv_topi (fun f_62 ef_62 => ?_)
        refine lv_i2c hx hb dX1_putFigures_82 (v := _) rfl ?_
        refine lv_topi (fun f_63 ef_63 => ?_)
        have hC0 := hC
        refine c_cv (c_runV (As := [.int f_63]) (rest := []) (q0 := 6) (ci := 1) ⟨hx, hb, hml, hown, htu⟩ (s_put_6 l G S1 sq f_63 hC hp1 hp3 H) (cwV 1 htu hU_X1_25 rfl rfl rfl (by decide +kernel) ⟨Nat.le_of_ble_eq_true rfl, Nat.le_of_ble_eq_true rfl⟩) hP hK hD hC hpp cw_6 rfl rfl hl.1 rfl (lv_room (Nat.le_of_ble_eq_true rfl)) dX1_putFigures_83) hS hD hh hpp (fun S_65 H locs hw_66 hP hD hS hC hh hs_67 hpp => ?_)
        try dsimp only at hw_66
        have aw_68 : AW [] [200] S1 S_65 := hw_66.1
        have aw_68t : AW [] [200] S S_65 := hAW.tr (aw_68.mono (by decide) (by decide))
        obtain ⟨sg_69, sg_691, sg_692, sg_693, sg_694⟩ := hw_66.2
        refine lv_lload hx hb dX1_putFigures_86 (lv_at hl 5 rfl) ?_
        refine lv_ldc2 (v := 10) hx hb hown (htu _ C_477) dX1_putFigures_88 ?_
        refine lv_ldiv hx hb dX1_putFigures_91 (by decide) ?_
        rw [pv_div i (by omega)]
        refine lv_lstore (lv' := [(5, .long ((pv (i + 1)))), (4, .int 1), (7, .long f_58), (0, .ref (ga G 6)), (1, .int y), (2, .long f_52)]) hx hb dX1_putFigures_92 hl (by decide) rfl (fun ls hl => ?_)
        refine lv_goto (tgt := 26) hx hb dX1_putFigures_94 (by decide) ?_
        exact ih9 _ _ _ _ _ ⟨S_65, 1, i + 1, sg_69, ls, hC, hh, hpp, aw_68t, by omega, sg_691, (Nat.le_trans hp2 sg_692), sg_693, rfl, rfl, hP, hD, hS, lv_sub hl [3, 4, 5, 1, 0] rfl, rfl⟩
      · skip
        refine lv_lload hx hb dX1_putFigures_48 (lv_at hl 0 rfl) ?_
        refine lv_lconst (v := 0) hx hb dX1_putFigures_50 (by decide) ?_
        refine W.lcmp hx hb dX1_putFigures_51 ?_
        refine lv_topi (fun f_70 ef_70 => ?_)
        refine lv_if_ne (tgt := 62) hx hb dX1_putFigures_52 (by decide) (fun c_71 => ?_) (fun c_71 => ?_)
        · skip
          refine lv_iconst (v := 1) hx hb dX1_putFigures_62 (by decide) ?_
          refine lv_goto (tgt := 67) hx hb dX1_putFigures_63 (by decide) ?_
          refine lv_istore (lv' := [(4, .int 1), (7, .long f_58), (0, .ref (ga G 6)), (1, .int y), (2, .long f_52), (5, .long ((pv i)))]) hx hb dX1_putFigures_67 hl (by decide) rfl (fun ls hl => ?_)
          refine lv_iload hx hb dX1_putFigures_69 (lv_at hl 0 rfl) ?_
          refine lv_if_eq (tgt := 86) hx hb dX1_putFigures_71 (by decide) (fun c_72 => absurd c_72 (by decide)) (fun c_72 => ?_)
          refine lv_aload_n hx hb dX1_putFigures_74 rfl (lv_at hl 2 rfl) ?_
          refine lv_ldc2 (v := 48) hx hb hown (htu _ C_478) dX1_putFigures_75 ?_
          refine lv_lload hx hb dX1_putFigures_78 (lv_at hl 1 rfl) ?_
          refine lv_ladd hx hb dX1_putFigures_80 ?_
          refine lv_topl (fun f_73 ef_73 => ?_)
          refine lv_l2i hx hb dX1_putFigures_81 (v := _) rfl ?_
          refine lv_topi (fun f_74 ef_74 => ?_)
          refine lv_i2c hx hb dX1_putFigures_82 (v := _) rfl ?_
          refine lv_topi (fun f_75 ef_75 => ?_)
          have hC0 := hC
          refine c_cv (c_runV (As := [.int f_75]) (rest := []) (q0 := 6) (ci := 1) ⟨hx, hb, hml, hown, htu⟩ (s_put_6 l G S1 sq f_75 hC hp1 hp3 H) (cwV 1 htu hU_X1_25 rfl rfl rfl (by decide +kernel) ⟨Nat.le_of_ble_eq_true rfl, Nat.le_of_ble_eq_true rfl⟩) hP hK hD hC hpp cw_6 rfl rfl hl.1 rfl (lv_room (Nat.le_of_ble_eq_true rfl)) dX1_putFigures_83) hS hD hh hpp (fun S_77 H locs hw_78 hP hD hS hC hh hs_79 hpp => ?_)
          try dsimp only at hw_78
          have aw_80 : AW [] [200] S1 S_77 := hw_78.1
          have aw_80t : AW [] [200] S S_77 := hAW.tr (aw_80.mono (by decide) (by decide))
          obtain ⟨sg_81, sg_811, sg_812, sg_813, sg_814⟩ := hw_78.2
          refine lv_lload hx hb dX1_putFigures_86 (lv_at hl 5 rfl) ?_
          refine lv_ldc2 (v := 10) hx hb hown (htu _ C_477) dX1_putFigures_88 ?_
          refine lv_ldiv hx hb dX1_putFigures_91 (by decide) ?_
          rw [pv_div i (by omega)]
          refine lv_lstore (lv' := [(5, .long ((pv (i + 1)))), (4, .int 1), (7, .long f_58), (0, .ref (ga G 6)), (1, .int y), (2, .long f_52)]) hx hb dX1_putFigures_92 hl (by decide) rfl (fun ls hl => ?_)
          refine lv_goto (tgt := 26) hx hb dX1_putFigures_94 (by decide) ?_
          exact ih9 _ _ _ _ _ ⟨S_77, 1, i + 1, sg_81, ls, hC, hh, hpp, aw_80t, by omega, sg_811, (Nat.le_trans hp2 sg_812), sg_813, rfl, rfl, hP, hD, hS, lv_sub hl [3, 4, 5, 1, 0] rfl, rfl⟩
        · skip
          refine lv_lload hx hb dX1_putFigures_55 (lv_at hl 5 rfl) ?_
          refine lv_lconst (v := 1) hx hb dX1_putFigures_57 (by decide) ?_
          refine W.lcmp hx hb dX1_putFigures_58 ?_
          refine lv_topi (fun f_82 ef_82 => ?_)
          refine lv_if_ne (tgt := 66) hx hb dX1_putFigures_59 (by decide) (fun c_83 => ?_) (fun c_83 => ?_)
          · skip
            refine lv_iconst (v := 0) hx hb dX1_putFigures_66 (by decide) ?_
            refine lv_istore (lv' := [(4, .int 0), (7, .long f_58), (0, .ref (ga G 6)), (1, .int y), (2, .long f_52), (5, .long ((pv i)))]) hx hb dX1_putFigures_67 hl (by decide) rfl (fun ls hl => ?_)
            refine lv_iload hx hb dX1_putFigures_69 (lv_at hl 0 rfl) ?_
            refine lv_if_eq (tgt := 86) hx hb dX1_putFigures_71 (by decide) (fun c_84 => ?_) (fun c_84 => absurd (by decide) c_84)
            refine lv_lload hx hb dX1_putFigures_86 (lv_at hl 5 rfl) ?_
            refine lv_ldc2 (v := 10) hx hb hown (htu _ C_477) dX1_putFigures_88 ?_
            refine lv_ldiv hx hb dX1_putFigures_91 (by decide) ?_
            rw [pv_div i (by omega)]
            refine lv_lstore (lv' := [(5, .long ((pv (i + 1)))), (4, .int 0), (7, .long f_58), (0, .ref (ga G 6)), (1, .int y), (2, .long f_52)]) hx hb dX1_putFigures_92 hl (by decide) rfl (fun ls hl => ?_)
            refine lv_goto (tgt := 26) hx hb dX1_putFigures_94 (by decide) ?_
            exact ih9 _ _ _ _ _ ⟨S1, 0, i + 1, sq, ls, hC, hh, hpp, hAW, by omega, hp1, hp2, hp3, rfl, rfl, hP, hD, hS, lv_sub hl [3, 4, 5, 1, 0] rfl, rfl⟩
          · skip
            refine lv_iconst (v := 1) hx hb dX1_putFigures_62 (by decide) ?_
            refine lv_goto (tgt := 67) hx hb dX1_putFigures_63 (by decide) ?_
            refine lv_istore (lv' := [(4, .int 1), (7, .long f_58), (0, .ref (ga G 6)), (1, .int y), (2, .long f_52), (5, .long ((pv i)))]) hx hb dX1_putFigures_67 hl (by decide) rfl (fun ls hl => ?_)
            refine lv_iload hx hb dX1_putFigures_69 (lv_at hl 0 rfl) ?_
            refine lv_if_eq (tgt := 86) hx hb dX1_putFigures_71 (by decide) (fun c_85 => absurd c_85 (by decide)) (fun c_85 => ?_)
            refine lv_aload_n hx hb dX1_putFigures_74 rfl (lv_at hl 2 rfl) ?_
            refine lv_ldc2 (v := 48) hx hb hown (htu _ C_478) dX1_putFigures_75 ?_
            refine lv_lload hx hb dX1_putFigures_78 (lv_at hl 1 rfl) ?_
            refine lv_ladd hx hb dX1_putFigures_80 ?_
            refine lv_topl (fun f_86 ef_86 => ?_)
            refine lv_l2i hx hb dX1_putFigures_81 (v := _) rfl ?_
            refine lv_topi (fun f_87 ef_87 => ?_)
            refine lv_i2c hx hb dX1_putFigures_82 (v := _) rfl ?_
            refine lv_topi (fun f_88 ef_88 => ?_)
            have hC0 := hC
            refine c_cv (c_runV (As := [.int f_88]) (rest := []) (q0 := 6) (ci := 1) ⟨hx, hb, hml, hown, htu⟩ (s_put_6 l G S1 sq f_88 hC hp1 hp3 H) (cwV 1 htu hU_X1_25 rfl rfl rfl (by decide +kernel) ⟨Nat.le_of_ble_eq_true rfl, Nat.le_of_ble_eq_true rfl⟩) hP hK hD hC hpp cw_6 rfl rfl hl.1 rfl (lv_room (Nat.le_of_ble_eq_true rfl)) dX1_putFigures_83) hS hD hh hpp (fun S_90 H locs hw_91 hP hD hS hC hh hs_92 hpp => ?_)
            try dsimp only at hw_91
            have aw_93 : AW [] [200] S1 S_90 := hw_91.1
            have aw_93t : AW [] [200] S S_90 := hAW.tr (aw_93.mono (by decide) (by decide))
            obtain ⟨sg_94, sg_941, sg_942, sg_943, sg_944⟩ := hw_91.2
            refine lv_lload hx hb dX1_putFigures_86 (lv_at hl 5 rfl) ?_
            refine lv_ldc2 (v := 10) hx hb hown (htu _ C_477) dX1_putFigures_88 ?_
            refine lv_ldiv hx hb dX1_putFigures_91 (by decide) ?_
            rw [pv_div i (by omega)]
            refine lv_lstore (lv' := [(5, .long ((pv (i + 1)))), (4, .int 1), (7, .long f_58), (0, .ref (ga G 6)), (1, .int y), (2, .long f_52)]) hx hb dX1_putFigures_92 hl (by decide) rfl (fun ls hl => ?_)
            refine lv_goto (tgt := 26) hx hb dX1_putFigures_94 (by decide) ?_
            exact ih9 _ _ _ _ _ ⟨S_90, 1, i + 1, sg_94, ls, hC, hh, hpp, aw_93t, by omega, sg_941, (Nat.le_trans hp2 sg_942), sg_943, rfl, rfl, hP, hD, hS, lv_sub hl [3, 4, 5, 1, 0] rfl, rfl⟩

set_option maxHeartbeats 4000000 in
set_option maxRecDepth 100000 in
/-- at -/
theorem s_at_6 (l : Launch) (G : cG) (S : cS) (sn : Nat) (y : Int32) (hC : CL S) (hn : S.1 200 = nI sn) (hcap : sn ≤ 400) (Hs : Heap) : Met l yX1_at (wC yX1_at cX1_at 2 (some .int)) (cRm S 0 0) (cPc G S Hs [.ref (ga G 6), .int y]) (cQi G S Hs (fun v u => AW [] [] S u ∧ (u = S))) (CC - PT S) (12 * (CC - PT S)) (cA G S Hs.size) := by
  refine Met.ofW (cc := cX1_at) (maxL := 2) (ret := (some .int)) (by decide) rfl ?_
  intro p e s m args below meth c s₁ B hml hv
  obtain ⟨rfl, hsz, hP, hK, hD0, -⟩ := hv
  have hx := B.exec
  have hb := B.bytes
  have hr := B.returns
  have htu : ∀ w ∈ CU, w.before _ s = true := fun w h => atoms_spec (ws := (wC yX1_at cX1_at 2 (some .int))) B.pre w (List.mem_cons_of_mem _ h)
  have hown : s.vm.findClass RX1 = some m.cls := findClass_of_methodNamed B.named
  have hlocks := B.notSynchronized
  subst hsz
  have hD : cD (cA G S s.heap.size) G S := cD_self hD0
  have hl := lv_entry ([.ref (ga G 6), .int y]) (n := 2) (Nat.le_of_ble_eq_true rfl)
  rw [lg_entry_eq]
  generalize (lg_sl ([.ref (ga G 6), .int y]) ++ List.replicate (2 - (lg_sl ([.ref (ga G 6), .int y])).length) Slot.unset).toArray = ls at hl ⊢
  have hl : lv_has ls 2 [(0, .ref (ga G 6)), (1, .int y)] := hl
  obtain ⟨H, hHe⟩ : ∃ H : Heap, H = s.heap := ⟨_, rfl⟩
  rw [← hHe] at hP
  have hS : va_S (cA G S s.heap.size) s.heap H [] := by rw [hHe]; exact va_S.rf
  have hh : HS S S := HS.rf
  have hpp : PT S ≤ PT S := Nat.le_refl _
  have hB9 := hC.1
  refine W.heq hHe ?_
  refine c_ent (S := S) ?_
  refine lv_iload_n hx hb dX1_at_0 rfl (lv_at hl 1 rfl) ?_
  refine lv_iconst (v := (-1)) hx hb dX1_at_1 (by decide) ?_
  refine lv_icmp_ne (tgt := 10) hx hb dX1_at_2 (by decide) (fun c_1 => ?_) (fun c_1 => ?_)
  · skip
    refine lv_iload_n hx hb dX1_at_10 rfl (lv_at hl 1 rfl) ?_
    refine lv_if_lt (tgt := 31) hx hb dX1_at_11 (by decide) (fun c_2 => ?_) (fun c_2 => ?_)
    · skip
      refine lv_bipush (v := (-9)) hx hb dX1_at_31 (by decide) ?_
      exact c_iret (v := (-9)) hx hb hr hK hP hD hS hC hh hpp ⟨AW.rf, rfl⟩ dX1_at_33 hlocks
    · skip
      refine lv_iload_n hx hb dX1_at_14 rfl (lv_at hl 1 rfl) ?_
      refine lv_aload_n hx hb dX1_at_15 rfl (lv_at hl 0 rfl) ?_
      refine va_get (D := gD G) (ci := 1) (v := .int (nI sn)) (C := RX1) (T := TX1) (N := 2) hx hb htu cu_in1 hown hK hP 6 cw_6 rfl 1 (by decide) (htu _ C_455) (fun _ h9 => h9) (m_v hn) dX1_at_16 ?_
      refine lv_icmp_ge (tgt := 31) hx hb dX1_at_19 (by decide) (fun c_3 => ?_) (fun c_3 => ?_)
      · skip
        refine lv_bipush (v := (-9)) hx hb dX1_at_31 (by decide) ?_
        exact c_iret (v := (-9)) hx hb hr hK hP hD hS hC hh hpp ⟨AW.rf, rfl⟩ dX1_at_33 hlocks
      · skip
        refine lv_aload_n hx hb dX1_at_22 rfl (lv_at hl 0 rfl) ?_
        refine va_get (D := gD G) (ci := 1) (v := .ref (ga G 9)) (C := RX1) (T := TX1) (N := 2) hx hb htu cu_in1 hown hK hP 6 cw_6 rfl 0 (by decide) (htu _ C_142) (fun _ h9 => h9) rfl dX1_at_23 ?_
        refine lv_iload_n hx hb dX1_at_26 rfl (lv_at hl 1 rfl) ?_
        refine va_bald hx hb hK hP 9 1 cw_9 rfl (rin c_2 c_3 hcap (by decide)) dX1_at_27 ?_
        refine lv_topi (fun f_4 ef_4 => ?_)
        refine lv_goto (tgt := 33) hx hb dX1_at_28 (by decide) ?_
        exact c_iret (v := f_4) hx hb hr hK hP hD hS hC hh hpp ⟨AW.rf, rfl⟩ dX1_at_33 hlocks
  · skip
    refine lv_aload_n hx hb dX1_at_5 rfl (lv_at hl 0 rfl) ?_
    refine va_get (D := gD G) (ci := 1) (v := .int (nI sn)) (C := RX1) (T := TX1) (N := 2) hx hb htu cu_in1 hown hK hP 6 cw_6 rfl 1 (by decide) (htu _ C_455) (fun _ h9 => h9) (m_v hn) dX1_at_6 ?_
    exact c_iret (v := nI sn) hx hb hr hK hP hD hS hC hh hpp ⟨AW.rf, rfl⟩ dX1_at_9 hlocks

set_option maxHeartbeats 4000000 in
set_option maxRecDepth 100000 in
/-- clear -/
theorem s_clear_7 (l : Launch) (G : cG) (S : cS) (hC : CL S) (Hs : Heap) : Met l yX1_clear (wC yX1_clear cX1_clear 1 none) (cRm S 0 0) (cPc G S Hs [.ref (ga G 7)]) (cQv G S Hs (fun u => AW [] [201] S u ∧ (u.1 201 = nI 0))) (CC - PT S) (12 * (CC - PT S)) (cA G S Hs.size) := by
  refine Met.ofW (cc := cX1_clear) (maxL := 1) (ret := none) (by decide) rfl ?_
  intro p e s m args below meth c s₁ B hml hv
  obtain ⟨rfl, hsz, hP, hK, hD0, -⟩ := hv
  have hx := B.exec
  have hb := B.bytes
  have hr := B.returns
  have htu : ∀ w ∈ CU, w.before _ s = true := fun w h => atoms_spec (ws := (wC yX1_clear cX1_clear 1 none)) B.pre w (List.mem_cons_of_mem _ h)
  have hown : s.vm.findClass RX1 = some m.cls := findClass_of_methodNamed B.named
  have hlocks := B.notSynchronized
  subst hsz
  have hD : cD (cA G S s.heap.size) G S := cD_self hD0
  have hl := lv_entry ([.ref (ga G 7)]) (n := 1) (Nat.le_of_ble_eq_true rfl)
  rw [lg_entry_eq]
  generalize (lg_sl ([.ref (ga G 7)]) ++ List.replicate (1 - (lg_sl ([.ref (ga G 7)])).length) Slot.unset).toArray = ls at hl ⊢
  have hl : lv_has ls 1 [(0, .ref (ga G 7))] := hl
  obtain ⟨H, hHe⟩ : ∃ H : Heap, H = s.heap := ⟨_, rfl⟩
  rw [← hHe] at hP
  have hS : va_S (cA G S s.heap.size) s.heap H [] := by rw [hHe]; exact va_S.rf
  have hh : HS S S := HS.rf
  have hpp : PT S ≤ PT S := Nat.le_refl _
  have hB9 := hC.1
  refine W.heq hHe ?_
  refine c_ent (S := S) ?_
  refine lv_aload_n hx hb dX1_clear_0 rfl (lv_at hl 0 rfl) ?_
  refine lv_iconst (v := 0) hx hb dX1_clear_1 (by decide) ?_
  refine c_put7_1 (x := 0) hx hb htu hown hK hP hD hS (htu _ C_455) dX1_clear_2 (fun H locs hP hD hS => ?_)
  have S_1h : HS S (cO S 201 0) := hh
  have S_1c : CL (cO S 201 0) := hC
  have S_1p : PT S ≤ PT (cO S 201 0) := hpp
  refine c_eq (S1 := S) (S2 := cO S 201 0) rfl ?_
  have S_1w : AW [] [201] S (cO S 201 0) := (AW.o AW.rf (by decide))
  have hh := S_1h
  have hC := S_1c
  have hpp := S_1p
  exact c_vret hx hb hr hK hP hD hS hC hh hpp ⟨S_1w, cO_s⟩ dX1_clear_5 hlocks

set_option maxHeartbeats 4000000 in
set_option maxRecDepth 100000 in
/-- isFull -/
theorem s_isFull_7 (l : Launch) (G : cG) (S : cS) (sn : Nat) (hC : CL S) (hn : S.1 201 = nI sn) (hcap : sn ≤ 400) (Hs : Heap) : Met l yX1_isFull (wC yX1_isFull cX1_isFull 1 (some .boolean)) (cRm S 0 0) (cPc G S Hs [.ref (ga G 7)]) (cQi G S Hs (fun v u => AW [] [] S u ∧ (u = S ∧ ((v = 1 ∧ 400 ≤ sn) ∨ (v = 0 ∧ sn < 400))))) (CC - PT S) (12 * (CC - PT S)) (cA G S Hs.size) := by
  refine Met.ofW (cc := cX1_isFull) (maxL := 1) (ret := (some .boolean)) (by decide) rfl ?_
  intro p e s m args below meth c s₁ B hml hv
  obtain ⟨rfl, hsz, hP, hK, hD0, -⟩ := hv
  have hx := B.exec
  have hb := B.bytes
  have hr := B.returns
  have htu : ∀ w ∈ CU, w.before _ s = true := fun w h => atoms_spec (ws := (wC yX1_isFull cX1_isFull 1 (some .boolean))) B.pre w (List.mem_cons_of_mem _ h)
  have hown : s.vm.findClass RX1 = some m.cls := findClass_of_methodNamed B.named
  have hlocks := B.notSynchronized
  subst hsz
  have hD : cD (cA G S s.heap.size) G S := cD_self hD0
  have hl := lv_entry ([.ref (ga G 7)]) (n := 1) (Nat.le_of_ble_eq_true rfl)
  rw [lg_entry_eq]
  generalize (lg_sl ([.ref (ga G 7)]) ++ List.replicate (1 - (lg_sl ([.ref (ga G 7)])).length) Slot.unset).toArray = ls at hl ⊢
  have hl : lv_has ls 1 [(0, .ref (ga G 7))] := hl
  obtain ⟨H, hHe⟩ : ∃ H : Heap, H = s.heap := ⟨_, rfl⟩
  rw [← hHe] at hP
  have hS : va_S (cA G S s.heap.size) s.heap H [] := by rw [hHe]; exact va_S.rf
  have hh : HS S S := HS.rf
  have hpp : PT S ≤ PT S := Nat.le_refl _
  have hB9 := hC.1
  refine W.heq hHe ?_
  refine c_ent (S := S) ?_
  refine lv_aload_n hx hb dX1_isFull_0 rfl (lv_at hl 0 rfl) ?_
  refine va_get (D := gD G) (ci := 1) (v := .int (nI sn)) (C := RX1) (T := TX1) (N := 2) hx hb htu cu_in1 hown hK hP 7 cw_7 rfl 1 (by decide) (htu _ C_455) (fun _ h9 => h9) (m_v hn) dX1_isFull_1 ?_
  refine lv_aload_n hx hb dX1_isFull_4 rfl (lv_at hl 0 rfl) ?_
  refine va_get (D := gD G) (ci := 1) (v := .ref (ga G 10)) (C := RX1) (T := TX1) (N := 2) hx hb htu cu_in1 hown hK hP 7 cw_7 rfl 0 (by decide) (htu _ C_142) (fun _ h9 => h9) rfl dX1_isFull_5 ?_
  refine va_alen hx hb hK hP 10 1 cw_10 rfl (v := 400) rfl dX1_isFull_8 ?_
  refine lv_icmp_lt (tgt := 16) hx hb dX1_isFull_9 (by decide) (fun c_1 => ?_) (fun c_1 => ?_)
  · skip
    have nc_1 : sn < 400 := (nI_ltI (a := sn) (b := 400) (by omega) (by omega)).mp c_1
    refine lv_iconst (v := 0) hx hb dX1_isFull_16 (by decide) ?_
    exact c_zret (v := 0) hx hb hr hK hP hD hS hC hh hpp rfl ⟨AW.rf, ⟨rfl, Or.inr ⟨rfl, nc_1⟩⟩⟩ dX1_isFull_17 hlocks
  · skip
    have nc_1 : ¬ sn < 400 := fun h9 => c_1 ((nI_ltI (a := sn) (b := 400) (by omega) (by omega)).mpr h9)
    refine lv_iconst (v := 1) hx hb dX1_isFull_12 (by decide) ?_
    refine lv_goto (tgt := 17) hx hb dX1_isFull_13 (by decide) ?_
    exact c_zret (v := 1) hx hb hr hK hP hD hS hC hh hpp rfl ⟨AW.rf, ⟨rfl, Or.inl ⟨rfl, Nat.not_lt.mp nc_1⟩⟩⟩ dX1_isFull_17 hlocks

set_option maxHeartbeats 4000000 in
set_option maxRecDepth 100000 in
/-- put -/
theorem s_put_7 (l : Launch) (G : cG) (S : cS) (sn : Nat) (y : Int32) (hC : CL S) (hn : S.1 201 = nI sn) (hcap : sn ≤ 400) (Hs : Heap) : Met l yX1_put (wC yX1_put cX1_put 2 none) (cRm S 0 0) (cPc G S Hs [.ref (ga G 7), .int y]) (cQv G S Hs (fun u => AW [] [201] S u ∧ (∃ sm, u.1 201 = nI sm ∧ sn ≤ sm ∧ sm ≤ 400 ∧ (sn < 400 → sn < sm)))) (CC - PT S) (12 * (CC - PT S)) (cA G S Hs.size) := by
  refine Met.ofW (cc := cX1_put) (maxL := 2) (ret := none) (by decide) rfl ?_
  intro p e s m args below meth c s₁ B hml hv
  obtain ⟨rfl, hsz, hP, hK, hD0, -⟩ := hv
  have hx := B.exec
  have hb := B.bytes
  have hr := B.returns
  have htu : ∀ w ∈ CU, w.before _ s = true := fun w h => atoms_spec (ws := (wC yX1_put cX1_put 2 none)) B.pre w (List.mem_cons_of_mem _ h)
  have hown : s.vm.findClass RX1 = some m.cls := findClass_of_methodNamed B.named
  have hlocks := B.notSynchronized
  subst hsz
  have hD : cD (cA G S s.heap.size) G S := cD_self hD0
  have hl := lv_entry ([.ref (ga G 7), .int y]) (n := 2) (Nat.le_of_ble_eq_true rfl)
  rw [lg_entry_eq]
  generalize (lg_sl ([.ref (ga G 7), .int y]) ++ List.replicate (2 - (lg_sl ([.ref (ga G 7), .int y])).length) Slot.unset).toArray = ls at hl ⊢
  have hl : lv_has ls 2 [(0, .ref (ga G 7)), (1, .int y)] := hl
  obtain ⟨H, hHe⟩ : ∃ H : Heap, H = s.heap := ⟨_, rfl⟩
  rw [← hHe] at hP
  have hS : va_S (cA G S s.heap.size) s.heap H [] := by rw [hHe]; exact va_S.rf
  have hh : HS S S := HS.rf
  have hpp : PT S ≤ PT S := Nat.le_refl _
  have hB9 := hC.1
  refine W.heq hHe ?_
  refine c_ent (S := S) ?_
  refine lv_aload_n hx hb dX1_put_0 rfl (lv_at hl 0 rfl) ?_
  refine va_get (D := gD G) (ci := 1) (v := .int (nI sn)) (C := RX1) (T := TX1) (N := 2) hx hb htu cu_in1 hown hK hP 7 cw_7 rfl 1 (by decide) (htu _ C_455) (fun _ h9 => h9) (m_v hn) dX1_put_1 ?_
  refine lv_aload_n hx hb dX1_put_4 rfl (lv_at hl 0 rfl) ?_
  refine va_get (D := gD G) (ci := 1) (v := .ref (ga G 10)) (C := RX1) (T := TX1) (N := 2) hx hb htu cu_in1 hown hK hP 7 cw_7 rfl 0 (by decide) (htu _ C_142) (fun _ h9 => h9) rfl dX1_put_5 ?_
  refine va_alen hx hb hK hP 10 1 cw_10 rfl (v := 400) rfl dX1_put_8 ?_
  refine lv_icmp_lt (tgt := 13) hx hb dX1_put_9 (by decide) (fun c_1 => ?_) (fun c_1 => ?_)
  · skip
    have nc_1 : sn < 400 := (nI_ltI (a := sn) (b := 400) (by omega) (by omega)).mp c_1
    refine lv_aload_n hx hb dX1_put_13 rfl (lv_at hl 0 rfl) ?_
    refine va_get (D := gD G) (ci := 1) (v := .ref (ga G 10)) (C := RX1) (T := TX1) (N := 2) hx hb htu cu_in1 hown hK hP 7 cw_7 rfl 0 (by decide) (htu _ C_142) (fun _ h9 => h9) rfl dX1_put_14 ?_
    refine lv_aload_n hx hb dX1_put_17 rfl (lv_at hl 0 rfl) ?_
    refine va_get (D := gD G) (ci := 1) (v := .int (nI sn)) (C := RX1) (T := TX1) (N := 2) hx hb htu cu_in1 hown hK hP 7 cw_7 rfl 1 (by decide) (htu _ C_455) (fun _ h9 => h9) (m_v hn) dX1_put_18 ?_
    refine lv_iload_n hx hb dX1_put_21 rfl (lv_at hl 1 rfl) ?_
    refine lv_i2b hx hb dX1_put_22 (v := _) rfl ?_
    refine lv_topi (fun f_2 ef_2 => ?_)
    refine c_bst10 (x := f_2) (j := sn) hx hb hK hP hD hS (hC.1) (by omega) dX1_put_23 (fun H locs hP hD hS => ?_)
    have S_3h : HS S (cY S 401 (upd (kF S 401) sn (vp_nar .byte f_2))) := hh
    have S_3c : CL (cY S 401 (upd (kF S 401) sn (vp_nar .byte f_2))) := hC
    have S_3p : PT S ≤ PT (cY S 401 (upd (kF S 401) sn (vp_nar .byte f_2))) := hpp
    refine c_eq (S1 := S) (S2 := cY S 401 (upd (kF S 401) sn (vp_nar .byte f_2))) rfl ?_
    have S_3w : AW [] [201] S (cY S 401 (upd (kF S 401) sn (vp_nar .byte f_2))) := (AW.y AW.rf hC.1 (by decide) (by decide))
    have hh := S_3h
    have hC := S_3c
    have hpp := S_3p
    refine lv_aload_n hx hb dX1_put_24 rfl (lv_at hl 0 rfl) ?_
    refine lv_dup hx hb dX1_put_25 rfl ?_
    refine va_get (D := gD G) (ci := 1) (v := .int (nI sn)) (C := RX1) (T := TX1) (N := 2) hx hb htu cu_in1 hown hK hP 7 cw_7 rfl 1 (by decide) (htu _ C_455) (fun _ h9 => h9) (m_v hn) dX1_put_26 ?_
    refine lv_iconst (v := 1) hx hb dX1_put_29 (by decide) ?_
    refine lv_iadd hx hb dX1_put_30 ?_
    refine m_top (y := nI (sn + 1)) (nI_add sn 1) ?_
    refine c_put7_1 (x := (nI (sn + 1))) hx hb htu hown hK hP hD hS (htu _ C_455) dX1_put_31 (fun H locs hP hD hS => ?_)
    have S_4h : HS S (cO (cY S 401 (upd (kF S 401) sn (vp_nar .byte f_2))) 201 (nI (sn + 1))) := hh
    have S_4c : CL (cO (cY S 401 (upd (kF S 401) sn (vp_nar .byte f_2))) 201 (nI (sn + 1))) := hC
    have S_4p : PT S ≤ PT (cO (cY S 401 (upd (kF S 401) sn (vp_nar .byte f_2))) 201 (nI (sn + 1))) := hpp
    refine c_eq (S1 := (cY S 401 (upd (kF S 401) sn (vp_nar .byte f_2)))) (S2 := cO (cY S 401 (upd (kF S 401) sn (vp_nar .byte f_2))) 201 (nI (sn + 1))) rfl ?_
    have S_4w : AW [] [201] S (cO (cY S 401 (upd (kF S 401) sn (vp_nar .byte f_2))) 201 (nI (sn + 1))) := (AW.o S_3w (by decide))
    have hh := S_4h
    have hC := S_4c
    have hpp := S_4p
    exact c_vret hx hb hr hK hP hD hS hC hh hpp ⟨S_4w, ⟨sn + 1, cO_s, Nat.le_succ _, nc_1, fun _ => Nat.lt_succ_self _⟩⟩ dX1_put_34 hlocks
  · skip
    have nc_1 : ¬ sn < 400 := fun h9 => c_1 ((nI_ltI (a := sn) (b := 400) (by omega) (by omega)).mpr h9)
    exact c_vret hx hb hr hK hP hD hS hC hh hpp ⟨AW.rf, ⟨sn, hn, Nat.le_refl _, hcap, fun h => absurd h nc_1⟩⟩ dX1_put_12 hlocks

set_option maxHeartbeats 4000000 in
set_option maxRecDepth 100000 in
/-- putLetter -/
theorem s_putLetter_7 (l : Launch) (G : cG) (S : cS) (sn : Nat) (y : Int32) (hC : CL S) (hn : S.1 201 = nI sn) (hcap : sn ≤ 400) (Hs : Heap) : Met l yX1_putLetter (wC yX1_putLetter cX1_putLetter 2 none) (cRm S 1 21) (cPc G S Hs [.ref (ga G 7), .int y]) (cQv G S Hs (fun u => AW [] [201] S u ∧ (∃ sm, u.1 201 = nI sm ∧ sn ≤ sm ∧ sm ≤ 400 ∧ (sn < 400 → sn < sm)))) (CC - PT S) (12 * (CC - PT S)) (cA G S Hs.size) := by
  refine Met.ofW (cc := cX1_putLetter) (maxL := 2) (ret := none) (by decide) rfl ?_
  intro p e s m args below meth c s₁ B hml hv
  obtain ⟨rfl, hsz, hP, hK, hD0, -⟩ := hv
  have hx := B.exec
  have hb := B.bytes
  have hr := B.returns
  have htu : ∀ w ∈ CU, w.before _ s = true := fun w h => atoms_spec (ws := (wC yX1_putLetter cX1_putLetter 2 none)) B.pre w (List.mem_cons_of_mem _ h)
  have hown : s.vm.findClass RX1 = some m.cls := findClass_of_methodNamed B.named
  have hlocks := B.notSynchronized
  subst hsz
  have hD : cD (cA G S s.heap.size) G S := cD_self hD0
  have hl := lv_entry ([.ref (ga G 7), .int y]) (n := 2) (Nat.le_of_ble_eq_true rfl)
  rw [lg_entry_eq]
  generalize (lg_sl ([.ref (ga G 7), .int y]) ++ List.replicate (2 - (lg_sl ([.ref (ga G 7), .int y])).length) Slot.unset).toArray = ls at hl ⊢
  have hl : lv_has ls 2 [(0, .ref (ga G 7)), (1, .int y)] := hl
  obtain ⟨H, hHe⟩ : ∃ H : Heap, H = s.heap := ⟨_, rfl⟩
  rw [← hHe] at hP
  have hS : va_S (cA G S s.heap.size) s.heap H [] := by rw [hHe]; exact va_S.rf
  have hh : HS S S := HS.rf
  have hpp : PT S ≤ PT S := Nat.le_refl _
  have hB9 := hC.1
  refine W.heq hHe ?_
  refine c_ent (S := S) ?_
  refine lv_aload_n hx hb dX1_putLetter_0 rfl (lv_at hl 0 rfl) ?_
  refine lv_bipush (v := 97) hx hb dX1_putLetter_1 (by decide) ?_
  refine lv_iload_n hx hb dX1_putLetter_3 rfl (lv_at hl 1 rfl) ?_
  refine lv_iadd hx hb dX1_putLetter_4 ?_
  refine lv_topi (fun f_1 ef_1 => ?_)
  refine lv_i2c hx hb dX1_putLetter_5 (v := _) rfl ?_
  refine lv_topi (fun f_2 ef_2 => ?_)
  have hC0 := hC
  refine c_cv (c_runV (As := [.int f_2]) (rest := []) (q0 := 7) (ci := 1) ⟨hx, hb, hml, hown, htu⟩ (s_put_7 l G S sn f_2 hC hn hcap H) (cwV 1 htu hU_X1_25 rfl rfl rfl (by decide +kernel) ⟨Nat.le_of_ble_eq_true rfl, Nat.le_of_ble_eq_true rfl⟩) hP hK hD hC hpp cw_7 rfl rfl hl.1 rfl (lv_room (Nat.le_of_ble_eq_true rfl)) dX1_putLetter_6) hS hD hh hpp (fun S_4 H locs hw_5 hP hD hS hC hh hs_6 hpp => ?_)
  try dsimp only at hw_5
  have aw_7 : AW [] [201] S S_4 := hw_5.1
  have aw_7t : AW [] [201] S S_4 := AW.rf.tr (aw_7.mono (by decide) (by decide))
  obtain ⟨sg_8, sg_81, sg_82, sg_83, sg_84⟩ := hw_5.2
  exact c_vret hx hb hr hK hP hD hS hC hh hpp ⟨aw_7t, ⟨sg_8, sg_81, sg_82, sg_83, sg_84⟩⟩ dX1_putLetter_9 hlocks

set_option maxHeartbeats 4000000 in
set_option maxRecDepth 100000 in
/-- putFigures -/
theorem s_putFigures_7 (l : Launch) (G : cG) (S : cS) (sn : Nat) (y : Int32) (hC : CL S) (hn : S.1 201 = nI sn) (hcap : sn ≤ 400) (Hs : Heap) : Met l yX1_putFigures (wC yX1_putFigures cX1_putFigures 9 none) (cRm S 1 21) (cPc G S Hs [.ref (ga G 7), .int y]) (cQv G S Hs (fun u => AW [] [201] S u ∧ (∃ sm, u.1 201 = nI sm ∧ sn ≤ sm ∧ sm ≤ 400))) (CC - PT S) (12 * (CC - PT S)) (cA G S Hs.size) := by
  refine Met.ofW (cc := cX1_putFigures) (maxL := 9) (ret := none) (by decide) rfl ?_
  intro p e s m args below meth c s₁ B hml hv
  obtain ⟨rfl, hsz, hP, hK, hD0, -⟩ := hv
  have hx := B.exec
  have hb := B.bytes
  have hr := B.returns
  have htu : ∀ w ∈ CU, w.before _ s = true := fun w h => atoms_spec (ws := (wC yX1_putFigures cX1_putFigures 9 none)) B.pre w (List.mem_cons_of_mem _ h)
  have hown : s.vm.findClass RX1 = some m.cls := findClass_of_methodNamed B.named
  have hlocks := B.notSynchronized
  subst hsz
  have hD : cD (cA G S s.heap.size) G S := cD_self hD0
  have hl := lv_entry ([.ref (ga G 7), .int y]) (n := 9) (Nat.le_of_ble_eq_true rfl)
  rw [lg_entry_eq]
  generalize (lg_sl ([.ref (ga G 7), .int y]) ++ List.replicate (9 - (lg_sl ([.ref (ga G 7), .int y])).length) Slot.unset).toArray = ls at hl ⊢
  have hl : lv_has ls 9 [(0, .ref (ga G 7)), (1, .int y)] := hl
  obtain ⟨H, hHe⟩ : ∃ H : Heap, H = s.heap := ⟨_, rfl⟩
  rw [← hHe] at hP
  have hS : va_S (cA G S s.heap.size) s.heap H [] := by rw [hHe]; exact va_S.rf
  have hh : HS S S := HS.rf
  have hpp : PT S ≤ PT S := Nat.le_refl _
  have hB9 := hC.1
  refine W.heq hHe ?_
  refine c_ent (S := S) ?_
  refine lv_iload_n hx hb dX1_putFigures_0 rfl (lv_at hl 1 rfl) ?_
  refine lv_i2l hx hb dX1_putFigures_1 (v := _) rfl ?_
  refine lv_topl (fun f_1 ef_1 => ?_)
  refine lv_lstore_n (lv' := [(2, .long f_1), (0, .ref (ga G 7)), (1, .int y)]) hx hb dX1_putFigures_2 rfl hl (by decide) rfl (fun ls hl => ?_)
  refine lv_lload_n hx hb dX1_putFigures_3 rfl (lv_at hl 0 rfl) ?_
  refine lv_lconst (v := 0) hx hb dX1_putFigures_4 (by decide) ?_
  refine W.lcmp hx hb dX1_putFigures_5 ?_
  refine lv_topi (fun f_2 ef_2 => ?_)
  refine lv_if_ge (tgt := 18) hx hb dX1_putFigures_6 (by decide) (fun c_3 => ?_) (fun c_3 => ?_)
  · skip
    refine lv_iconst (v := 0) hx hb dX1_putFigures_18 (by decide) ?_
    refine lv_istore (lv' := [(4, .int 0), (2, .long f_1), (0, .ref (ga G 7)), (1, .int y)]) hx hb dX1_putFigures_19 hl (by decide) rfl (fun ls hl => ?_)
    refine lv_ldc2 (v := 1000000000) hx hb hown (htu _ C_476) dX1_putFigures_21 ?_
    refine lv_lstore (lv' := [(5, .long 1000000000), (4, .int 0), (2, .long f_1), (0, .ref (ga G 7)), (1, .int y)]) hx hb dX1_putFigures_24 hl (by decide) rfl (fun ls hl => ?_)
    refine w_loop (fun j H locs k sl g => ∃ (S1 : cS) (bg : Int32) (i : Nat) (sq : Nat) (ls : Array Slot), CL S1 ∧ HS S S1 ∧ PT S ≤ PT S1 ∧ AW [] [201] S S1 ∧ i + j = 10 ∧ S1.1 201 = nI sq ∧ sn ≤ sq ∧ sq ≤ 400 ∧ k = PT S1 - PT S ∧ sl = 12 * (PT S1 - PT S) ∧ cP G S1 H ∧ cD (cA G S s.heap.size) G S1 ∧ va_S (cA G S s.heap.size) s.heap H locs ∧ lv_has ls 9 [(0, .ref (ga G 7)), (1, .int y), (2, .long f_1), (4, .int bg), (5, .long ((pv i)))] ∧ g = F0 m 26 ls []) ?_ ?_ 10 _ _ _ _ _ ⟨S, 0, 0, sn, ls, hC, hh, hpp, AW.rf, by omega, hn, Nat.le_refl _, hcap, rfl, rfl, hP, hD, hS, lv_sub hl [3, 4, 2, 1, 0] rfl, rfl⟩
    · intro H locs k sl g hI
      obtain ⟨S1, bg, i, sq, ls, hC, hh, hpp, hAW, hp0, hp1, hp2, hp3, rfl, rfl, hP, hD, hS, hl, rfl⟩ := hI
      refine lv_lload hx hb dX1_putFigures_26 (lv_at hl 4 rfl) ?_
      refine lv_lconst (v := 1) hx hb dX1_putFigures_28 (by decide) ?_
      refine W.lcmp hx hb dX1_putFigures_29 ?_
      refine lv_topi (fun f_4 ef_4 => ?_)
      refine lv_if_lt (tgt := 97) hx hb dX1_putFigures_30 (by decide) (fun c_5 => ?_) (fun c_5 => absurd (by rw [ef_4, show i = 10 by omega]; exact pv_10) c_5)
      exact c_vret hx hb hr hK hP hD hS hC hh hpp ⟨hAW, ⟨sq, hp1, hp2, hp3⟩⟩ dX1_putFigures_97 hlocks
    · intro j ih9 H locs k sl g hI
      obtain ⟨S1, bg, i, sq, ls, hC, hh, hpp, hAW, hp0, hp1, hp2, hp3, rfl, rfl, hP, hD, hS, hl, rfl⟩ := hI
      refine lv_lload hx hb dX1_putFigures_26 (lv_at hl 4 rfl) ?_
      refine lv_lconst (v := 1) hx hb dX1_putFigures_28 (by decide) ?_
      refine W.lcmp hx hb dX1_putFigures_29 ?_
      refine lv_topi (fun f_6 ef_6 => ?_)
      refine lv_if_lt (tgt := 97) hx hb dX1_putFigures_30 (by decide) (fun c_7 => absurd c_7 (by rw [ef_6]; exact pv_ge i (by omega))) (fun c_7 => ?_)
      refine lv_lload_n hx hb dX1_putFigures_33 rfl (lv_at hl 2 rfl) ?_
      refine lv_lload hx hb dX1_putFigures_34 (lv_at hl 4 rfl) ?_
      refine lv_ldiv hx hb dX1_putFigures_36 (pv_nz i (by omega)) ?_
      refine lv_topl (fun f_8 ef_8 => ?_)
      refine lv_ldc2 (v := 10) hx hb hown (htu _ C_477) dX1_putFigures_37 ?_
      refine lv_lrem hx hb dX1_putFigures_40 (by decide) ?_
      refine lv_topl (fun f_9 ef_9 => ?_)
      refine lv_lstore (lv' := [(7, .long f_9), (0, .ref (ga G 7)), (1, .int y), (2, .long f_1), (4, .int bg), (5, .long ((pv i)))]) hx hb dX1_putFigures_41 hl (by decide) rfl (fun ls hl => ?_)
      refine lv_iload hx hb dX1_putFigures_43 (lv_at hl 4 rfl) ?_
      refine lv_if_ne (tgt := 62) hx hb dX1_putFigures_45 (by decide) (fun c_10 => ?_) (fun c_10 => ?_)
      · skip
        refine lv_iconst (v := 1) hx hb dX1_putFigures_62 (by decide) ?_
        refine lv_goto (tgt := 67) hx hb dX1_putFigures_63 (by decide) ?_
        refine lv_istore (lv' := [(4, .int 1), (7, .long f_9), (0, .ref (ga G 7)), (1, .int y), (2, .long f_1), (5, .long ((pv i)))]) hx hb dX1_putFigures_67 hl (by decide) rfl (fun ls hl => ?_)
        refine lv_iload hx hb dX1_putFigures_69 (lv_at hl 0 rfl) ?_
        refine lv_if_eq (tgt := 86) hx hb dX1_putFigures_71 (by decide) (fun c_11 => absurd c_11 (by decide)) (fun c_11 => ?_)
        refine lv_aload_n hx hb dX1_putFigures_74 rfl (lv_at hl 2 rfl) ?_
        refine lv_ldc2 (v := 48) hx hb hown (htu _ C_478) dX1_putFigures_75 ?_
        refine lv_lload hx hb dX1_putFigures_78 (lv_at hl 1 rfl) ?_
        refine lv_ladd hx hb dX1_putFigures_80 ?_
        refine lv_topl (fun f_12 ef_12 => ?_)
        refine lv_l2i hx hb dX1_putFigures_81 (v := _) rfl ?_
        refine lv_topi (fun f_13 ef_13 => ?_)
        refine lv_i2c hx hb dX1_putFigures_82 (v := _) rfl ?_
        refine lv_topi (fun f_14 ef_14 => ?_)
        have hC0 := hC
        refine c_cv (c_runV (As := [.int f_14]) (rest := []) (q0 := 7) (ci := 1) ⟨hx, hb, hml, hown, htu⟩ (s_put_7 l G S1 sq f_14 hC hp1 hp3 H) (cwV 1 htu hU_X1_25 rfl rfl rfl (by decide +kernel) ⟨Nat.le_of_ble_eq_true rfl, Nat.le_of_ble_eq_true rfl⟩) hP hK hD hC hpp cw_7 rfl rfl hl.1 rfl (lv_room (Nat.le_of_ble_eq_true rfl)) dX1_putFigures_83) hS hD hh hpp (fun S_16 H locs hw_17 hP hD hS hC hh hs_18 hpp => ?_)
        try dsimp only at hw_17
        have aw_19 : AW [] [201] S1 S_16 := hw_17.1
        have aw_19t : AW [] [201] S S_16 := hAW.tr (aw_19.mono (by decide) (by decide))
        obtain ⟨sg_20, sg_201, sg_202, sg_203, sg_204⟩ := hw_17.2
        refine lv_lload hx hb dX1_putFigures_86 (lv_at hl 5 rfl) ?_
        refine lv_ldc2 (v := 10) hx hb hown (htu _ C_477) dX1_putFigures_88 ?_
        refine lv_ldiv hx hb dX1_putFigures_91 (by decide) ?_
        rw [pv_div i (by omega)]
        refine lv_lstore (lv' := [(5, .long ((pv (i + 1)))), (4, .int 1), (7, .long f_9), (0, .ref (ga G 7)), (1, .int y), (2, .long f_1)]) hx hb dX1_putFigures_92 hl (by decide) rfl (fun ls hl => ?_)
        refine lv_goto (tgt := 26) hx hb dX1_putFigures_94 (by decide) ?_
        exact ih9 _ _ _ _ _ ⟨S_16, 1, i + 1, sg_20, ls, hC, hh, hpp, aw_19t, by omega, sg_201, (Nat.le_trans hp2 sg_202), sg_203, rfl, rfl, hP, hD, hS, lv_sub hl [3, 4, 5, 1, 0] rfl, rfl⟩
      · skip
        refine lv_lload hx hb dX1_putFigures_48 (lv_at hl 0 rfl) ?_
        refine lv_lconst (v := 0) hx hb dX1_putFigures_50 (by decide) ?_
        refine W.lcmp hx hb dX1_putFigures_51 ?_
        refine lv_topi (fun f_21 ef_21 => ?_)
        refine lv_if_ne (tgt := 62) hx hb dX1_putFigures_52 (by decide) (fun c_22 => ?_) (fun c_22 => ?_)
        · skip
          refine lv_iconst (v := 1) hx hb dX1_putFigures_62 (by decide) ?_
          refine lv_goto (tgt := 67) hx hb dX1_putFigures_63 (by decide) ?_
          refine lv_istore (lv' := [(4, .int 1), (7, .long f_9), (0, .ref (ga G 7)), (1, .int y), (2, .long f_1), (5, .long ((pv i)))]) hx hb dX1_putFigures_67 hl (by decide) rfl (fun ls hl => ?_)
          refine lv_iload hx hb dX1_putFigures_69 (lv_at hl 0 rfl) ?_
          refine lv_if_eq (tgt := 86) hx hb dX1_putFigures_71 (by decide) (fun c_23 => absurd c_23 (by decide)) (fun c_23 => ?_)
          refine lv_aload_n hx hb dX1_putFigures_74 rfl (lv_at hl 2 rfl) ?_
          refine lv_ldc2 (v := 48) hx hb hown (htu _ C_478) dX1_putFigures_75 ?_
          refine lv_lload hx hb dX1_putFigures_78 (lv_at hl 1 rfl) ?_
          refine lv_ladd hx hb dX1_putFigures_80 ?_
          refine lv_topl (fun f_24 ef_24 => ?_)
          refine lv_l2i hx hb dX1_putFigures_81 (v := _) rfl ?_
          refine lv_topi (fun f_25 ef_25 => ?_)
          refine lv_i2c hx hb dX1_putFigures_82 (v := _) rfl ?_
          refine lv_topi (fun f_26 ef_26 => ?_)
          have hC0 := hC
          refine c_cv (c_runV (As := [.int f_26]) (rest := []) (q0 := 7) (ci := 1) ⟨hx, hb, hml, hown, htu⟩ (s_put_7 l G S1 sq f_26 hC hp1 hp3 H) (cwV 1 htu hU_X1_25 rfl rfl rfl (by decide +kernel) ⟨Nat.le_of_ble_eq_true rfl, Nat.le_of_ble_eq_true rfl⟩) hP hK hD hC hpp cw_7 rfl rfl hl.1 rfl (lv_room (Nat.le_of_ble_eq_true rfl)) dX1_putFigures_83) hS hD hh hpp (fun S_28 H locs hw_29 hP hD hS hC hh hs_30 hpp => ?_)
          try dsimp only at hw_29
          have aw_31 : AW [] [201] S1 S_28 := hw_29.1
          have aw_31t : AW [] [201] S S_28 := hAW.tr (aw_31.mono (by decide) (by decide))
          obtain ⟨sg_32, sg_321, sg_322, sg_323, sg_324⟩ := hw_29.2
          refine lv_lload hx hb dX1_putFigures_86 (lv_at hl 5 rfl) ?_
          refine lv_ldc2 (v := 10) hx hb hown (htu _ C_477) dX1_putFigures_88 ?_
          refine lv_ldiv hx hb dX1_putFigures_91 (by decide) ?_
          rw [pv_div i (by omega)]
          refine lv_lstore (lv' := [(5, .long ((pv (i + 1)))), (4, .int 1), (7, .long f_9), (0, .ref (ga G 7)), (1, .int y), (2, .long f_1)]) hx hb dX1_putFigures_92 hl (by decide) rfl (fun ls hl => ?_)
          refine lv_goto (tgt := 26) hx hb dX1_putFigures_94 (by decide) ?_
          exact ih9 _ _ _ _ _ ⟨S_28, 1, i + 1, sg_32, ls, hC, hh, hpp, aw_31t, by omega, sg_321, (Nat.le_trans hp2 sg_322), sg_323, rfl, rfl, hP, hD, hS, lv_sub hl [3, 4, 5, 1, 0] rfl, rfl⟩
        · skip
          refine lv_lload hx hb dX1_putFigures_55 (lv_at hl 5 rfl) ?_
          refine lv_lconst (v := 1) hx hb dX1_putFigures_57 (by decide) ?_
          refine W.lcmp hx hb dX1_putFigures_58 ?_
          refine lv_topi (fun f_33 ef_33 => ?_)
          refine lv_if_ne (tgt := 66) hx hb dX1_putFigures_59 (by decide) (fun c_34 => ?_) (fun c_34 => ?_)
          · skip
            refine lv_iconst (v := 0) hx hb dX1_putFigures_66 (by decide) ?_
            refine lv_istore (lv' := [(4, .int 0), (7, .long f_9), (0, .ref (ga G 7)), (1, .int y), (2, .long f_1), (5, .long ((pv i)))]) hx hb dX1_putFigures_67 hl (by decide) rfl (fun ls hl => ?_)
            refine lv_iload hx hb dX1_putFigures_69 (lv_at hl 0 rfl) ?_
            refine lv_if_eq (tgt := 86) hx hb dX1_putFigures_71 (by decide) (fun c_35 => ?_) (fun c_35 => absurd (by decide) c_35)
            refine lv_lload hx hb dX1_putFigures_86 (lv_at hl 5 rfl) ?_
            refine lv_ldc2 (v := 10) hx hb hown (htu _ C_477) dX1_putFigures_88 ?_
            refine lv_ldiv hx hb dX1_putFigures_91 (by decide) ?_
            rw [pv_div i (by omega)]
            refine lv_lstore (lv' := [(5, .long ((pv (i + 1)))), (4, .int 0), (7, .long f_9), (0, .ref (ga G 7)), (1, .int y), (2, .long f_1)]) hx hb dX1_putFigures_92 hl (by decide) rfl (fun ls hl => ?_)
            refine lv_goto (tgt := 26) hx hb dX1_putFigures_94 (by decide) ?_
            exact ih9 _ _ _ _ _ ⟨S1, 0, i + 1, sq, ls, hC, hh, hpp, hAW, by omega, hp1, hp2, hp3, rfl, rfl, hP, hD, hS, lv_sub hl [3, 4, 5, 1, 0] rfl, rfl⟩
          · skip
            refine lv_iconst (v := 1) hx hb dX1_putFigures_62 (by decide) ?_
            refine lv_goto (tgt := 67) hx hb dX1_putFigures_63 (by decide) ?_
            refine lv_istore (lv' := [(4, .int 1), (7, .long f_9), (0, .ref (ga G 7)), (1, .int y), (2, .long f_1), (5, .long ((pv i)))]) hx hb dX1_putFigures_67 hl (by decide) rfl (fun ls hl => ?_)
            refine lv_iload hx hb dX1_putFigures_69 (lv_at hl 0 rfl) ?_
            refine lv_if_eq (tgt := 86) hx hb dX1_putFigures_71 (by decide) (fun c_36 => absurd c_36 (by decide)) (fun c_36 => ?_)
            refine lv_aload_n hx hb dX1_putFigures_74 rfl (lv_at hl 2 rfl) ?_
            refine lv_ldc2 (v := 48) hx hb hown (htu _ C_478) dX1_putFigures_75 ?_
            refine lv_lload hx hb dX1_putFigures_78 (lv_at hl 1 rfl) ?_
            refine lv_ladd hx hb dX1_putFigures_80 ?_
            refine lv_topl (fun f_37 ef_37 => ?_)
            refine lv_l2i hx hb dX1_putFigures_81 (v := _) rfl ?_
            refine lv_topi (fun f_38 ef_38 => ?_)
            refine lv_i2c hx hb dX1_putFigures_82 (v := _) rfl ?_
            refine lv_topi (fun f_39 ef_39 => ?_)
            have hC0 := hC
            refine c_cv (c_runV (As := [.int f_39]) (rest := []) (q0 := 7) (ci := 1) ⟨hx, hb, hml, hown, htu⟩ (s_put_7 l G S1 sq f_39 hC hp1 hp3 H) (cwV 1 htu hU_X1_25 rfl rfl rfl (by decide +kernel) ⟨Nat.le_of_ble_eq_true rfl, Nat.le_of_ble_eq_true rfl⟩) hP hK hD hC hpp cw_7 rfl rfl hl.1 rfl (lv_room (Nat.le_of_ble_eq_true rfl)) dX1_putFigures_83) hS hD hh hpp (fun S_41 H locs hw_42 hP hD hS hC hh hs_43 hpp => ?_)
            try dsimp only at hw_42
            have aw_44 : AW [] [201] S1 S_41 := hw_42.1
            have aw_44t : AW [] [201] S S_41 := hAW.tr (aw_44.mono (by decide) (by decide))
            obtain ⟨sg_45, sg_451, sg_452, sg_453, sg_454⟩ := hw_42.2
            refine lv_lload hx hb dX1_putFigures_86 (lv_at hl 5 rfl) ?_
            refine lv_ldc2 (v := 10) hx hb hown (htu _ C_477) dX1_putFigures_88 ?_
            refine lv_ldiv hx hb dX1_putFigures_91 (by decide) ?_
            rw [pv_div i (by omega)]
            refine lv_lstore (lv' := [(5, .long ((pv (i + 1)))), (4, .int 1), (7, .long f_9), (0, .ref (ga G 7)), (1, .int y), (2, .long f_1)]) hx hb dX1_putFigures_92 hl (by decide) rfl (fun ls hl => ?_)
            refine lv_goto (tgt := 26) hx hb dX1_putFigures_94 (by decide) ?_
            exact ih9 _ _ _ _ _ ⟨S_41, 1, i + 1, sg_45, ls, hC, hh, hpp, aw_44t, by omega, sg_451, (Nat.le_trans hp2 sg_452), sg_453, rfl, rfl, hP, hD, hS, lv_sub hl [3, 4, 5, 1, 0] rfl, rfl⟩
  · skip
    refine lv_aload_n hx hb dX1_putFigures_9 rfl (lv_at hl 1 rfl) ?_
    refine lv_bipush (v := 45) hx hb dX1_putFigures_10 (by decide) ?_
    have hC0 := hC
    refine c_cv (c_runV (As := [.int 45]) (rest := []) (q0 := 7) (ci := 1) ⟨hx, hb, hml, hown, htu⟩ (s_put_7 l G S sn 45 hC hn hcap H) (cwV 1 htu hU_X1_25 rfl rfl rfl (by decide +kernel) ⟨Nat.le_of_ble_eq_true rfl, Nat.le_of_ble_eq_true rfl⟩) hP hK hD hC hpp cw_7 rfl rfl hl.1 rfl (lv_room (Nat.le_of_ble_eq_true rfl)) dX1_putFigures_12) hS hD hh hpp (fun S_47 H locs hw_48 hP hD hS hC hh hs_49 hpp => ?_)
    try dsimp only at hw_48
    have aw_50 : AW [] [201] S S_47 := hw_48.1
    have aw_50t : AW [] [201] S S_47 := AW.rf.tr (aw_50.mono (by decide) (by decide))
    obtain ⟨sg_51, sg_511, sg_512, sg_513, sg_514⟩ := hw_48.2
    refine lv_lload_n hx hb dX1_putFigures_15 rfl (lv_at hl 0 rfl) ?_
    refine lv_lneg hx hb dX1_putFigures_16 ?_
    refine lv_topl (fun f_52 ef_52 => ?_)
    refine lv_lstore_n (lv' := [(2, .long f_52), (0, .ref (ga G 7)), (1, .int y)]) hx hb dX1_putFigures_17 rfl hl (by decide) rfl (fun ls hl => ?_)
    refine lv_iconst (v := 0) hx hb dX1_putFigures_18 (by decide) ?_
    refine lv_istore (lv' := [(4, .int 0), (2, .long f_52), (0, .ref (ga G 7)), (1, .int y)]) hx hb dX1_putFigures_19 hl (by decide) rfl (fun ls hl => ?_)
    refine lv_ldc2 (v := 1000000000) hx hb hown (htu _ C_476) dX1_putFigures_21 ?_
    refine lv_lstore (lv' := [(5, .long 1000000000), (4, .int 0), (2, .long f_52), (0, .ref (ga G 7)), (1, .int y)]) hx hb dX1_putFigures_24 hl (by decide) rfl (fun ls hl => ?_)
    refine w_loop (fun j H locs k sl g => ∃ (S1 : cS) (bg : Int32) (i : Nat) (sq : Nat) (ls : Array Slot), CL S1 ∧ HS S S1 ∧ PT S ≤ PT S1 ∧ AW [] [201] S S1 ∧ i + j = 10 ∧ S1.1 201 = nI sq ∧ sn ≤ sq ∧ sq ≤ 400 ∧ k = PT S1 - PT S ∧ sl = 12 * (PT S1 - PT S) ∧ cP G S1 H ∧ cD (cA G S s.heap.size) G S1 ∧ va_S (cA G S s.heap.size) s.heap H locs ∧ lv_has ls 9 [(0, .ref (ga G 7)), (1, .int y), (2, .long f_52), (4, .int bg), (5, .long ((pv i)))] ∧ g = F0 m 26 ls []) ?_ ?_ 10 _ _ _ _ _ ⟨S_47, 0, 0, sg_51, ls, hC, hh, hpp, aw_50t, by omega, sg_511, sg_512, sg_513, rfl, rfl, hP, hD, hS, lv_sub hl [3, 4, 2, 1, 0] rfl, rfl⟩
    · intro H locs k sl g hI
      obtain ⟨S1, bg, i, sq, ls, hC, hh, hpp, hAW, hp0, hp1, hp2, hp3, rfl, rfl, hP, hD, hS, hl, rfl⟩ := hI
      refine lv_lload hx hb dX1_putFigures_26 (lv_at hl 4 rfl) ?_
      refine lv_lconst (v := 1) hx hb dX1_putFigures_28 (by decide) ?_
      refine W.lcmp hx hb dX1_putFigures_29 ?_
      refine lv_topi (fun f_53 ef_53 => ?_)
      refine lv_if_lt (tgt := 97) hx hb dX1_putFigures_30 (by decide) (fun c_54 => ?_) (fun c_54 => absurd (by rw [ef_53, show i = 10 by omega]; exact pv_10) c_54)
      exact c_vret hx hb hr hK hP hD hS hC hh hpp ⟨hAW, ⟨sq, hp1, hp2, hp3⟩⟩ dX1_putFigures_97 hlocks
    · intro j ih9 H locs k sl g hI
      obtain ⟨S1, bg, i, sq, ls, hC, hh, hpp, hAW, hp0, hp1, hp2, hp3, rfl, rfl, hP, hD, hS, hl, rfl⟩ := hI
      refine lv_lload hx hb dX1_putFigures_26 (lv_at hl 4 rfl) ?_
      refine lv_lconst (v := 1) hx hb dX1_putFigures_28 (by decide) ?_
      refine W.lcmp hx hb dX1_putFigures_29 ?_
      refine lv_topi (fun f_55 ef_55 => ?_)
      refine lv_if_lt (tgt := 97) hx hb dX1_putFigures_30 (by decide) (fun c_56 => absurd c_56 (by rw [ef_55]; exact pv_ge i (by omega))) (fun c_56 => ?_)
      refine lv_lload_n hx hb dX1_putFigures_33 rfl (lv_at hl 2 rfl) ?_
      refine lv_lload hx hb dX1_putFigures_34 (lv_at hl 4 rfl) ?_
      refine lv_ldiv hx hb dX1_putFigures_36 (pv_nz i (by omega)) ?_
      refine lv_topl (fun f_57 ef_57 => ?_)
      refine lv_ldc2 (v := 10) hx hb hown (htu _ C_477) dX1_putFigures_37 ?_
      refine lv_lrem hx hb dX1_putFigures_40 (by decide) ?_
      refine lv_topl (fun f_58 ef_58 => ?_)
      refine lv_lstore (lv' := [(7, .long f_58), (0, .ref (ga G 7)), (1, .int y), (2, .long f_52), (4, .int bg), (5, .long ((pv i)))]) hx hb dX1_putFigures_41 hl (by decide) rfl (fun ls hl => ?_)
      refine lv_iload hx hb dX1_putFigures_43 (lv_at hl 4 rfl) ?_
      refine lv_if_ne (tgt := 62) hx hb dX1_putFigures_45 (by decide) (fun c_59 => ?_) (fun c_59 => ?_)
      · skip
        refine lv_iconst (v := 1) hx hb dX1_putFigures_62 (by decide) ?_
        refine lv_goto (tgt := 67) hx hb dX1_putFigures_63 (by decide) ?_
        refine lv_istore (lv' := [(4, .int 1), (7, .long f_58), (0, .ref (ga G 7)), (1, .int y), (2, .long f_52), (5, .long ((pv i)))]) hx hb dX1_putFigures_67 hl (by decide) rfl (fun ls hl => ?_)
        refine lv_iload hx hb dX1_putFigures_69 (lv_at hl 0 rfl) ?_
        refine lv_if_eq (tgt := 86) hx hb dX1_putFigures_71 (by decide) (fun c_60 => absurd c_60 (by decide)) (fun c_60 => ?_)
        refine lv_aload_n hx hb dX1_putFigures_74 rfl (lv_at hl 2 rfl) ?_
        refine lv_ldc2 (v := 48) hx hb hown (htu _ C_478) dX1_putFigures_75 ?_
        refine lv_lload hx hb dX1_putFigures_78 (lv_at hl 1 rfl) ?_
        refine lv_ladd hx hb dX1_putFigures_80 ?_
        refine lv_topl (fun f_61 ef_61 => ?_)
        refine lv_l2i hx hb dX1_putFigures_81 (v := _) rfl ?_
        refine lv_topi (fun f_62 ef_62 => ?_)
        refine lv_i2c hx hb dX1_putFigures_82 (v := _) rfl ?_
        refine lv_topi (fun f_63 ef_63 => ?_)
        have hC0 := hC
        refine c_cv (c_runV (As := [.int f_63]) (rest := []) (q0 := 7) (ci := 1) ⟨hx, hb, hml, hown, htu⟩ (s_put_7 l G S1 sq f_63 hC hp1 hp3 H) (cwV 1 htu hU_X1_25 rfl rfl rfl (by decide +kernel) ⟨Nat.le_of_ble_eq_true rfl, Nat.le_of_ble_eq_true rfl⟩) hP hK hD hC hpp cw_7 rfl rfl hl.1 rfl (lv_room (Nat.le_of_ble_eq_true rfl)) dX1_putFigures_83) hS hD hh hpp (fun S_65 H locs hw_66 hP hD hS hC hh hs_67 hpp => ?_)
        try dsimp only at hw_66
        have aw_68 : AW [] [201] S1 S_65 := hw_66.1
        have aw_68t : AW [] [201] S S_65 := hAW.tr (aw_68.mono (by decide) (by decide))
        obtain ⟨sg_69, sg_691, sg_692, sg_693, sg_694⟩ := hw_66.2
        refine lv_lload hx hb dX1_putFigures_86 (lv_at hl 5 rfl) ?_
        refine lv_ldc2 (v := 10) hx hb hown (htu _ C_477) dX1_putFigures_88 ?_
        refine lv_ldiv hx hb dX1_putFigures_91 (by decide) ?_
        rw [pv_div i (by omega)]
        refine lv_lstore (lv' := [(5, .long ((pv (i + 1)))), (4, .int 1), (7, .long f_58), (0, .ref (ga G 7)), (1, .int y), (2, .long f_52)]) hx hb dX1_putFigures_92 hl (by decide) rfl (fun ls hl => ?_)
        refine lv_goto (tgt := 26) hx hb dX1_putFigures_94 (by decide) ?_
        exact ih9 _ _ _ _ _ ⟨S_65, 1, i + 1, sg_69, ls, hC, hh, hpp, aw_68t, by omega, sg_691, (Nat.le_trans hp2 sg_692), sg_693, rfl, rfl, hP, hD, hS, lv_sub hl [3, 4, 5, 1, 0] rfl, rfl⟩
      · skip
        refine lv_lload hx hb dX1_putFigures_48 (lv_at hl 0 rfl) ?_
        refine lv_lconst (v := 0) hx hb dX1_putFigures_50 (by decide) ?_
        refine W.lcmp hx hb dX1_putFigures_51 ?_
        refine lv_topi (fun f_70 ef_70 => ?_)
        refine lv_if_ne (tgt := 62) hx hb dX1_putFigures_52 (by decide) (fun c_71 => ?_) (fun c_71 => ?_)
        · skip
          refine lv_iconst (v := 1) hx hb dX1_putFigures_62 (by decide) ?_
          refine lv_goto (tgt := 67) hx hb dX1_putFigures_63 (by decide) ?_
          refine lv_istore (lv' := [(4, .int 1), (7, .long f_58), (0, .ref (ga G 7)), (1, .int y), (2, .long f_52), (5, .long ((pv i)))]) hx hb dX1_putFigures_67 hl (by decide) rfl (fun ls hl => ?_)
          refine lv_iload hx hb dX1_putFigures_69 (lv_at hl 0 rfl) ?_
          refine lv_if_eq (tgt := 86) hx hb dX1_putFigures_71 (by decide) (fun c_72 => absurd c_72 (by decide)) (fun c_72 => ?_)
          refine lv_aload_n hx hb dX1_putFigures_74 rfl (lv_at hl 2 rfl) ?_
          refine lv_ldc2 (v := 48) hx hb hown (htu _ C_478) dX1_putFigures_75 ?_
          refine lv_lload hx hb dX1_putFigures_78 (lv_at hl 1 rfl) ?_
          refine lv_ladd hx hb dX1_putFigures_80 ?_
          refine lv_topl (fun f_73 ef_73 => ?_)
          refine lv_l2i hx hb dX1_putFigures_81 (v := _) rfl ?_
          refine lv_topi (fun f_74 ef_74 => ?_)
          refine lv_i2c hx hb dX1_putFigures_82 (v := _) rfl ?_
          refine lv_topi (fun f_75 ef_75 => ?_)
          have hC0 := hC
          refine c_cv (c_runV (As := [.int f_75]) (rest := []) (q0 := 7) (ci := 1) ⟨hx, hb, hml, hown, htu⟩ (s_put_7 l G S1 sq f_75 hC hp1 hp3 H) (cwV 1 htu hU_X1_25 rfl rfl rfl (by decide +kernel) ⟨Nat.le_of_ble_eq_true rfl, Nat.le_of_ble_eq_true rfl⟩) hP hK hD hC hpp cw_7 rfl rfl hl.1 rfl (lv_room (Nat.le_of_ble_eq_true rfl)) dX1_putFigures_83) hS hD hh hpp (fun S_77 H locs hw_78 hP hD hS hC hh hs_79 hpp => ?_)
          try dsimp only at hw_78
          have aw_80 : AW [] [201] S1 S_77 := hw_78.1
          have aw_80t : AW [] [201] S S_77 := hAW.tr (aw_80.mono (by decide) (by decide))
          obtain ⟨sg_81, sg_811, sg_812, sg_813, sg_814⟩ := hw_78.2
          refine lv_lload hx hb dX1_putFigures_86 (lv_at hl 5 rfl) ?_
          refine lv_ldc2 (v := 10) hx hb hown (htu _ C_477) dX1_putFigures_88 ?_
          refine lv_ldiv hx hb dX1_putFigures_91 (by decide) ?_
          rw [pv_div i (by omega)]
          refine lv_lstore (lv' := [(5, .long ((pv (i + 1)))), (4, .int 1), (7, .long f_58), (0, .ref (ga G 7)), (1, .int y), (2, .long f_52)]) hx hb dX1_putFigures_92 hl (by decide) rfl (fun ls hl => ?_)
          refine lv_goto (tgt := 26) hx hb dX1_putFigures_94 (by decide) ?_
          exact ih9 _ _ _ _ _ ⟨S_77, 1, i + 1, sg_81, ls, hC, hh, hpp, aw_80t, by omega, sg_811, (Nat.le_trans hp2 sg_812), sg_813, rfl, rfl, hP, hD, hS, lv_sub hl [3, 4, 5, 1, 0] rfl, rfl⟩
        · skip
          refine lv_lload hx hb dX1_putFigures_55 (lv_at hl 5 rfl) ?_
          refine lv_lconst (v := 1) hx hb dX1_putFigures_57 (by decide) ?_
          refine W.lcmp hx hb dX1_putFigures_58 ?_
          refine lv_topi (fun f_82 ef_82 => ?_)
          refine lv_if_ne (tgt := 66) hx hb dX1_putFigures_59 (by decide) (fun c_83 => ?_) (fun c_83 => ?_)
          · skip
            refine lv_iconst (v := 0) hx hb dX1_putFigures_66 (by decide) ?_
            refine lv_istore (lv' := [(4, .int 0), (7, .long f_58), (0, .ref (ga G 7)), (1, .int y), (2, .long f_52), (5, .long ((pv i)))]) hx hb dX1_putFigures_67 hl (by decide) rfl (fun ls hl => ?_)
            refine lv_iload hx hb dX1_putFigures_69 (lv_at hl 0 rfl) ?_
            refine lv_if_eq (tgt := 86) hx hb dX1_putFigures_71 (by decide) (fun c_84 => ?_) (fun c_84 => absurd (by decide) c_84)
            refine lv_lload hx hb dX1_putFigures_86 (lv_at hl 5 rfl) ?_
            refine lv_ldc2 (v := 10) hx hb hown (htu _ C_477) dX1_putFigures_88 ?_
            refine lv_ldiv hx hb dX1_putFigures_91 (by decide) ?_
            rw [pv_div i (by omega)]
            refine lv_lstore (lv' := [(5, .long ((pv (i + 1)))), (4, .int 0), (7, .long f_58), (0, .ref (ga G 7)), (1, .int y), (2, .long f_52)]) hx hb dX1_putFigures_92 hl (by decide) rfl (fun ls hl => ?_)
            refine lv_goto (tgt := 26) hx hb dX1_putFigures_94 (by decide) ?_
            exact ih9 _ _ _ _ _ ⟨S1, 0, i + 1, sq, ls, hC, hh, hpp, hAW, by omega, hp1, hp2, hp3, rfl, rfl, hP, hD, hS, lv_sub hl [3, 4, 5, 1, 0] rfl, rfl⟩
          · skip
            refine lv_iconst (v := 1) hx hb dX1_putFigures_62 (by decide) ?_
            refine lv_goto (tgt := 67) hx hb dX1_putFigures_63 (by decide) ?_
            refine lv_istore (lv' := [(4, .int 1), (7, .long f_58), (0, .ref (ga G 7)), (1, .int y), (2, .long f_52), (5, .long ((pv i)))]) hx hb dX1_putFigures_67 hl (by decide) rfl (fun ls hl => ?_)
            refine lv_iload hx hb dX1_putFigures_69 (lv_at hl 0 rfl) ?_
            refine lv_if_eq (tgt := 86) hx hb dX1_putFigures_71 (by decide) (fun c_85 => absurd c_85 (by decide)) (fun c_85 => ?_)
            refine lv_aload_n hx hb dX1_putFigures_74 rfl (lv_at hl 2 rfl) ?_
            refine lv_ldc2 (v := 48) hx hb hown (htu _ C_478) dX1_putFigures_75 ?_
            refine lv_lload hx hb dX1_putFigures_78 (lv_at hl 1 rfl) ?_
            refine lv_ladd hx hb dX1_putFigures_80 ?_
            refine lv_topl (fun f_86 ef_86 => ?_)
            refine lv_l2i hx hb dX1_putFigures_81 (v := _) rfl ?_
            refine lv_topi (fun f_87 ef_87 => ?_)
            refine lv_i2c hx hb dX1_putFigures_82 (v := _) rfl ?_
            refine lv_topi (fun f_88 ef_88 => ?_)
            have hC0 := hC
            refine c_cv (c_runV (As := [.int f_88]) (rest := []) (q0 := 7) (ci := 1) ⟨hx, hb, hml, hown, htu⟩ (s_put_7 l G S1 sq f_88 hC hp1 hp3 H) (cwV 1 htu hU_X1_25 rfl rfl rfl (by decide +kernel) ⟨Nat.le_of_ble_eq_true rfl, Nat.le_of_ble_eq_true rfl⟩) hP hK hD hC hpp cw_7 rfl rfl hl.1 rfl (lv_room (Nat.le_of_ble_eq_true rfl)) dX1_putFigures_83) hS hD hh hpp (fun S_90 H locs hw_91 hP hD hS hC hh hs_92 hpp => ?_)
            try dsimp only at hw_91
            have aw_93 : AW [] [201] S1 S_90 := hw_91.1
            have aw_93t : AW [] [201] S S_90 := hAW.tr (aw_93.mono (by decide) (by decide))
            obtain ⟨sg_94, sg_941, sg_942, sg_943, sg_944⟩ := hw_91.2
            refine lv_lload hx hb dX1_putFigures_86 (lv_at hl 5 rfl) ?_
            refine lv_ldc2 (v := 10) hx hb hown (htu _ C_477) dX1_putFigures_88 ?_
            refine lv_ldiv hx hb dX1_putFigures_91 (by decide) ?_
            rw [pv_div i (by omega)]
            refine lv_lstore (lv' := [(5, .long ((pv (i + 1)))), (4, .int 1), (7, .long f_58), (0, .ref (ga G 7)), (1, .int y), (2, .long f_52)]) hx hb dX1_putFigures_92 hl (by decide) rfl (fun ls hl => ?_)
            refine lv_goto (tgt := 26) hx hb dX1_putFigures_94 (by decide) ?_
            exact ih9 _ _ _ _ _ ⟨S_90, 1, i + 1, sg_94, ls, hC, hh, hpp, aw_93t, by omega, sg_941, (Nat.le_trans hp2 sg_942), sg_943, rfl, rfl, hP, hD, hS, lv_sub hl [3, 4, 5, 1, 0] rfl, rfl⟩

set_option maxHeartbeats 4000000 in
set_option maxRecDepth 100000 in
/-- at -/
theorem s_at_7 (l : Launch) (G : cG) (S : cS) (sn : Nat) (y : Int32) (hC : CL S) (hn : S.1 201 = nI sn) (hcap : sn ≤ 400) (Hs : Heap) : Met l yX1_at (wC yX1_at cX1_at 2 (some .int)) (cRm S 0 0) (cPc G S Hs [.ref (ga G 7), .int y]) (cQi G S Hs (fun v u => AW [] [] S u ∧ (u = S))) (CC - PT S) (12 * (CC - PT S)) (cA G S Hs.size) := by
  refine Met.ofW (cc := cX1_at) (maxL := 2) (ret := (some .int)) (by decide) rfl ?_
  intro p e s m args below meth c s₁ B hml hv
  obtain ⟨rfl, hsz, hP, hK, hD0, -⟩ := hv
  have hx := B.exec
  have hb := B.bytes
  have hr := B.returns
  have htu : ∀ w ∈ CU, w.before _ s = true := fun w h => atoms_spec (ws := (wC yX1_at cX1_at 2 (some .int))) B.pre w (List.mem_cons_of_mem _ h)
  have hown : s.vm.findClass RX1 = some m.cls := findClass_of_methodNamed B.named
  have hlocks := B.notSynchronized
  subst hsz
  have hD : cD (cA G S s.heap.size) G S := cD_self hD0
  have hl := lv_entry ([.ref (ga G 7), .int y]) (n := 2) (Nat.le_of_ble_eq_true rfl)
  rw [lg_entry_eq]
  generalize (lg_sl ([.ref (ga G 7), .int y]) ++ List.replicate (2 - (lg_sl ([.ref (ga G 7), .int y])).length) Slot.unset).toArray = ls at hl ⊢
  have hl : lv_has ls 2 [(0, .ref (ga G 7)), (1, .int y)] := hl
  obtain ⟨H, hHe⟩ : ∃ H : Heap, H = s.heap := ⟨_, rfl⟩
  rw [← hHe] at hP
  have hS : va_S (cA G S s.heap.size) s.heap H [] := by rw [hHe]; exact va_S.rf
  have hh : HS S S := HS.rf
  have hpp : PT S ≤ PT S := Nat.le_refl _
  have hB9 := hC.1
  refine W.heq hHe ?_
  refine c_ent (S := S) ?_
  refine lv_iload_n hx hb dX1_at_0 rfl (lv_at hl 1 rfl) ?_
  refine lv_iconst (v := (-1)) hx hb dX1_at_1 (by decide) ?_
  refine lv_icmp_ne (tgt := 10) hx hb dX1_at_2 (by decide) (fun c_1 => ?_) (fun c_1 => ?_)
  · skip
    refine lv_iload_n hx hb dX1_at_10 rfl (lv_at hl 1 rfl) ?_
    refine lv_if_lt (tgt := 31) hx hb dX1_at_11 (by decide) (fun c_2 => ?_) (fun c_2 => ?_)
    · skip
      refine lv_bipush (v := (-9)) hx hb dX1_at_31 (by decide) ?_
      exact c_iret (v := (-9)) hx hb hr hK hP hD hS hC hh hpp ⟨AW.rf, rfl⟩ dX1_at_33 hlocks
    · skip
      refine lv_iload_n hx hb dX1_at_14 rfl (lv_at hl 1 rfl) ?_
      refine lv_aload_n hx hb dX1_at_15 rfl (lv_at hl 0 rfl) ?_
      refine va_get (D := gD G) (ci := 1) (v := .int (nI sn)) (C := RX1) (T := TX1) (N := 2) hx hb htu cu_in1 hown hK hP 7 cw_7 rfl 1 (by decide) (htu _ C_455) (fun _ h9 => h9) (m_v hn) dX1_at_16 ?_
      refine lv_icmp_ge (tgt := 31) hx hb dX1_at_19 (by decide) (fun c_3 => ?_) (fun c_3 => ?_)
      · skip
        refine lv_bipush (v := (-9)) hx hb dX1_at_31 (by decide) ?_
        exact c_iret (v := (-9)) hx hb hr hK hP hD hS hC hh hpp ⟨AW.rf, rfl⟩ dX1_at_33 hlocks
      · skip
        refine lv_aload_n hx hb dX1_at_22 rfl (lv_at hl 0 rfl) ?_
        refine va_get (D := gD G) (ci := 1) (v := .ref (ga G 10)) (C := RX1) (T := TX1) (N := 2) hx hb htu cu_in1 hown hK hP 7 cw_7 rfl 0 (by decide) (htu _ C_142) (fun _ h9 => h9) rfl dX1_at_23 ?_
        refine lv_iload_n hx hb dX1_at_26 rfl (lv_at hl 1 rfl) ?_
        refine va_bald hx hb hK hP 10 1 cw_10 rfl (rin c_2 c_3 hcap (by decide)) dX1_at_27 ?_
        refine lv_topi (fun f_4 ef_4 => ?_)
        refine lv_goto (tgt := 33) hx hb dX1_at_28 (by decide) ?_
        exact c_iret (v := f_4) hx hb hr hK hP hD hS hC hh hpp ⟨AW.rf, rfl⟩ dX1_at_33 hlocks
  · skip
    refine lv_aload_n hx hb dX1_at_5 rfl (lv_at hl 0 rfl) ?_
    refine va_get (D := gD G) (ci := 1) (v := .int (nI sn)) (C := RX1) (T := TX1) (N := 2) hx hb htu cu_in1 hown hK hP 7 cw_7 rfl 1 (by decide) (htu _ C_455) (fun _ h9 => h9) (m_v hn) dX1_at_6 ?_
    exact c_iret (v := nI sn) hx hb hr hK hP hD hS hC hh hpp ⟨AW.rf, rfl⟩ dX1_at_9 hlocks

set_option maxHeartbeats 4000000 in
set_option maxRecDepth 100000 in
/-- isFull -/
theorem s_isFull_8 (l : Launch) (G : cG) (S : cS) (sn : Nat) (hC : CL S) (hn : S.1 202 = nI sn) (hcap : sn ≤ 200) (Hs : Heap) : Met l yX1_isFull (wC yX1_isFull cX1_isFull 1 (some .boolean)) (cRm S 0 0) (cPc G S Hs [.ref (ga G 8)]) (cQi G S Hs (fun v u => AW [] [] S u ∧ (u = S ∧ ((v = 1 ∧ 200 ≤ sn) ∨ (v = 0 ∧ sn < 200))))) (CC - PT S) (12 * (CC - PT S)) (cA G S Hs.size) := by
  refine Met.ofW (cc := cX1_isFull) (maxL := 1) (ret := (some .boolean)) (by decide) rfl ?_
  intro p e s m args below meth c s₁ B hml hv
  obtain ⟨rfl, hsz, hP, hK, hD0, -⟩ := hv
  have hx := B.exec
  have hb := B.bytes
  have hr := B.returns
  have htu : ∀ w ∈ CU, w.before _ s = true := fun w h => atoms_spec (ws := (wC yX1_isFull cX1_isFull 1 (some .boolean))) B.pre w (List.mem_cons_of_mem _ h)
  have hown : s.vm.findClass RX1 = some m.cls := findClass_of_methodNamed B.named
  have hlocks := B.notSynchronized
  subst hsz
  have hD : cD (cA G S s.heap.size) G S := cD_self hD0
  have hl := lv_entry ([.ref (ga G 8)]) (n := 1) (Nat.le_of_ble_eq_true rfl)
  rw [lg_entry_eq]
  generalize (lg_sl ([.ref (ga G 8)]) ++ List.replicate (1 - (lg_sl ([.ref (ga G 8)])).length) Slot.unset).toArray = ls at hl ⊢
  have hl : lv_has ls 1 [(0, .ref (ga G 8))] := hl
  obtain ⟨H, hHe⟩ : ∃ H : Heap, H = s.heap := ⟨_, rfl⟩
  rw [← hHe] at hP
  have hS : va_S (cA G S s.heap.size) s.heap H [] := by rw [hHe]; exact va_S.rf
  have hh : HS S S := HS.rf
  have hpp : PT S ≤ PT S := Nat.le_refl _
  have hB9 := hC.1
  refine W.heq hHe ?_
  refine c_ent (S := S) ?_
  refine lv_aload_n hx hb dX1_isFull_0 rfl (lv_at hl 0 rfl) ?_
  refine va_get (D := gD G) (ci := 1) (v := .int (nI sn)) (C := RX1) (T := TX1) (N := 2) hx hb htu cu_in1 hown hK hP 8 cw_8 rfl 1 (by decide) (htu _ C_455) (fun _ h9 => h9) (m_v hn) dX1_isFull_1 ?_
  refine lv_aload_n hx hb dX1_isFull_4 rfl (lv_at hl 0 rfl) ?_
  refine va_get (D := gD G) (ci := 1) (v := .ref (ga G 11)) (C := RX1) (T := TX1) (N := 2) hx hb htu cu_in1 hown hK hP 8 cw_8 rfl 0 (by decide) (htu _ C_142) (fun _ h9 => h9) rfl dX1_isFull_5 ?_
  refine va_alen hx hb hK hP 11 1 cw_11 rfl (v := 200) rfl dX1_isFull_8 ?_
  refine lv_icmp_lt (tgt := 16) hx hb dX1_isFull_9 (by decide) (fun c_1 => ?_) (fun c_1 => ?_)
  · skip
    have nc_1 : sn < 200 := (nI_ltI (a := sn) (b := 200) (by omega) (by omega)).mp c_1
    refine lv_iconst (v := 0) hx hb dX1_isFull_16 (by decide) ?_
    exact c_zret (v := 0) hx hb hr hK hP hD hS hC hh hpp rfl ⟨AW.rf, ⟨rfl, Or.inr ⟨rfl, nc_1⟩⟩⟩ dX1_isFull_17 hlocks
  · skip
    have nc_1 : ¬ sn < 200 := fun h9 => c_1 ((nI_ltI (a := sn) (b := 200) (by omega) (by omega)).mpr h9)
    refine lv_iconst (v := 1) hx hb dX1_isFull_12 (by decide) ?_
    refine lv_goto (tgt := 17) hx hb dX1_isFull_13 (by decide) ?_
    exact c_zret (v := 1) hx hb hr hK hP hD hS hC hh hpp rfl ⟨AW.rf, ⟨rfl, Or.inl ⟨rfl, Nat.not_lt.mp nc_1⟩⟩⟩ dX1_isFull_17 hlocks

set_option maxHeartbeats 4000000 in
set_option maxRecDepth 100000 in
/-- at -/
theorem s_at_8 (l : Launch) (G : cG) (S : cS) (sn : Nat) (y : Int32) (hC : CL S) (hn : S.1 202 = nI sn) (hcap : sn ≤ 200) (Hs : Heap) : Met l yX1_at (wC yX1_at cX1_at 2 (some .int)) (cRm S 0 0) (cPc G S Hs [.ref (ga G 8), .int y]) (cQi G S Hs (fun v u => AW [] [] S u ∧ (u = S))) (CC - PT S) (12 * (CC - PT S)) (cA G S Hs.size) := by
  refine Met.ofW (cc := cX1_at) (maxL := 2) (ret := (some .int)) (by decide) rfl ?_
  intro p e s m args below meth c s₁ B hml hv
  obtain ⟨rfl, hsz, hP, hK, hD0, -⟩ := hv
  have hx := B.exec
  have hb := B.bytes
  have hr := B.returns
  have htu : ∀ w ∈ CU, w.before _ s = true := fun w h => atoms_spec (ws := (wC yX1_at cX1_at 2 (some .int))) B.pre w (List.mem_cons_of_mem _ h)
  have hown : s.vm.findClass RX1 = some m.cls := findClass_of_methodNamed B.named
  have hlocks := B.notSynchronized
  subst hsz
  have hD : cD (cA G S s.heap.size) G S := cD_self hD0
  have hl := lv_entry ([.ref (ga G 8), .int y]) (n := 2) (Nat.le_of_ble_eq_true rfl)
  rw [lg_entry_eq]
  generalize (lg_sl ([.ref (ga G 8), .int y]) ++ List.replicate (2 - (lg_sl ([.ref (ga G 8), .int y])).length) Slot.unset).toArray = ls at hl ⊢
  have hl : lv_has ls 2 [(0, .ref (ga G 8)), (1, .int y)] := hl
  obtain ⟨H, hHe⟩ : ∃ H : Heap, H = s.heap := ⟨_, rfl⟩
  rw [← hHe] at hP
  have hS : va_S (cA G S s.heap.size) s.heap H [] := by rw [hHe]; exact va_S.rf
  have hh : HS S S := HS.rf
  have hpp : PT S ≤ PT S := Nat.le_refl _
  have hB9 := hC.1
  refine W.heq hHe ?_
  refine c_ent (S := S) ?_
  refine lv_iload_n hx hb dX1_at_0 rfl (lv_at hl 1 rfl) ?_
  refine lv_iconst (v := (-1)) hx hb dX1_at_1 (by decide) ?_
  refine lv_icmp_ne (tgt := 10) hx hb dX1_at_2 (by decide) (fun c_1 => ?_) (fun c_1 => ?_)
  · skip
    refine lv_iload_n hx hb dX1_at_10 rfl (lv_at hl 1 rfl) ?_
    refine lv_if_lt (tgt := 31) hx hb dX1_at_11 (by decide) (fun c_2 => ?_) (fun c_2 => ?_)
    · skip
      refine lv_bipush (v := (-9)) hx hb dX1_at_31 (by decide) ?_
      exact c_iret (v := (-9)) hx hb hr hK hP hD hS hC hh hpp ⟨AW.rf, rfl⟩ dX1_at_33 hlocks
    · skip
      refine lv_iload_n hx hb dX1_at_14 rfl (lv_at hl 1 rfl) ?_
      refine lv_aload_n hx hb dX1_at_15 rfl (lv_at hl 0 rfl) ?_
      refine va_get (D := gD G) (ci := 1) (v := .int (nI sn)) (C := RX1) (T := TX1) (N := 2) hx hb htu cu_in1 hown hK hP 8 cw_8 rfl 1 (by decide) (htu _ C_455) (fun _ h9 => h9) (m_v hn) dX1_at_16 ?_
      refine lv_icmp_ge (tgt := 31) hx hb dX1_at_19 (by decide) (fun c_3 => ?_) (fun c_3 => ?_)
      · skip
        refine lv_bipush (v := (-9)) hx hb dX1_at_31 (by decide) ?_
        exact c_iret (v := (-9)) hx hb hr hK hP hD hS hC hh hpp ⟨AW.rf, rfl⟩ dX1_at_33 hlocks
      · skip
        refine lv_aload_n hx hb dX1_at_22 rfl (lv_at hl 0 rfl) ?_
        refine va_get (D := gD G) (ci := 1) (v := .ref (ga G 11)) (C := RX1) (T := TX1) (N := 2) hx hb htu cu_in1 hown hK hP 8 cw_8 rfl 0 (by decide) (htu _ C_142) (fun _ h9 => h9) rfl dX1_at_23 ?_
        refine lv_iload_n hx hb dX1_at_26 rfl (lv_at hl 1 rfl) ?_
        refine va_bald hx hb hK hP 11 1 cw_11 rfl (rin c_2 c_3 hcap (by decide)) dX1_at_27 ?_
        refine lv_topi (fun f_4 ef_4 => ?_)
        refine lv_goto (tgt := 33) hx hb dX1_at_28 (by decide) ?_
        exact c_iret (v := f_4) hx hb hr hK hP hD hS hC hh hpp ⟨AW.rf, rfl⟩ dX1_at_33 hlocks
  · skip
    refine lv_aload_n hx hb dX1_at_5 rfl (lv_at hl 0 rfl) ?_
    refine va_get (D := gD G) (ci := 1) (v := .int (nI sn)) (C := RX1) (T := TX1) (N := 2) hx hb htu cu_in1 hown hK hP 8 cw_8 rfl 1 (by decide) (htu _ C_455) (fun _ h9 => h9) (m_v hn) dX1_at_6 ?_
    exact c_iret (v := nI sn) hx hb hr hK hP hD hS hC hh hpp ⟨AW.rf, rfl⟩ dX1_at_9 hlocks

