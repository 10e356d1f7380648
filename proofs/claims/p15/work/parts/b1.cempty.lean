theorem dX4_emptyBounds_0 : decode cX4_emptyBounds 0 = .ok (.iload_n 1, 1) := by decide +kernel
theorem dX4_emptyBounds_1 : decode cX4_emptyBounds 1 = .ok (.ifCond .lt 12, 3) := by decide +kernel
theorem dX4_emptyBounds_4 : decode cX4_emptyBounds 4 = .ok (.iload_n 1, 1) := by decide +kernel
theorem dX4_emptyBounds_5 : decode cX4_emptyBounds 5 = .ok (.aload_n 0, 1) := by decide +kernel
theorem dX4_emptyBounds_6 : decode cX4_emptyBounds 6 = .ok (.getfield 42, 3) := by decide +kernel
theorem dX4_emptyBounds_9 : decode cX4_emptyBounds 9 = .ok (.arraylength, 1) := by decide +kernel
theorem dX4_emptyBounds_10 : decode cX4_emptyBounds 10 = .ok (.if_icmp .lt 4, 3) := by decide +kernel
theorem dX4_emptyBounds_14 : decode cX4_emptyBounds 14 = .ok (.aload_n 0, 1) := by decide +kernel
theorem dX4_emptyBounds_15 : decode cX4_emptyBounds 15 = .ok (.getfield 42, 3) := by decide +kernel
theorem dX4_emptyBounds_18 : decode cX4_emptyBounds 18 = .ok (.iload_n 1, 1) := by decide +kernel
theorem dX4_emptyBounds_19 : decode cX4_emptyBounds 19 = .ok (.aaload, 1) := by decide +kernel
theorem dX4_emptyBounds_20 : decode cX4_emptyBounds 20 = .ok (.astore_n 2, 1) := by decide +kernel
theorem dX4_emptyBounds_21 : decode cX4_emptyBounds 21 = .ok (.aload_n 2, 1) := by decide +kernel
theorem dX4_emptyBounds_22 : decode cX4_emptyBounds 22 = .ok (.ifnonnull 19, 3) := by decide +kernel
theorem dX4_emptyBounds_41 : decode cX4_emptyBounds 41 = .ok (.aload_n 2, 1) := by decide +kernel
theorem dX4_emptyBounds_42 : decode cX4_emptyBounds 42 = .ok (.iconst 0, 1) := by decide +kernel
theorem dX4_emptyBounds_43 : decode cX4_emptyBounds 43 = .ok (.invokevirtual 61, 3) := by decide +kernel
theorem dX4_emptyBounds_46 : decode cX4_emptyBounds 46 = .ok (.return_, 1) := by decide +kernel
theorem dX4_emptyBounds_25 : decode cX4_emptyBounds 25 = .ok (.aload_n 0, 1) := by decide +kernel
theorem dX4_emptyBounds_26 : decode cX4_emptyBounds 26 = .ok (.getfield 42, 3) := by decide +kernel
theorem dX4_emptyBounds_29 : decode cX4_emptyBounds 29 = .ok (.iload_n 1, 1) := by decide +kernel
theorem dX4_emptyBounds_30 : decode cX4_emptyBounds 30 = .ok (.new 9, 3) := by decide +kernel
theorem dX4_emptyBounds_33 : decode cX4_emptyBounds 33 = .ok (.dup, 1) := by decide +kernel
theorem dX4_emptyBounds_34 : decode cX4_emptyBounds 34 = .ok (.invokespecial 11, 3) := by decide +kernel
theorem dX4_emptyBounds_37 : decode cX4_emptyBounds 37 = .ok (.aastore, 1) := by decide +kernel
theorem dX4_emptyBounds_38 : decode cX4_emptyBounds 38 = .ok (.goto 8, 3) := by decide +kernel
/-! ===== one more row of bounds ===== -/
def nB (S : cS) (h q : Nat) : cS := (S.1, fun a => if a = 35 + kB S then (fun _ => 0) else S.2.1 a, fun t a => if t = 0 then (if a = 35 + kB S then 0 else S.2.2 0 a) else if t = 1 then (if a = 35 + kB S then 4 else S.2.2 1 a) else if t = 2 then (if a = 35 + kB S then q else S.2.2 2 a) else if t = 3 then (if a = 35 + kB S then h else S.2.2 3 a) else if t = 4 then (if a = 0 then kB S + 1 else S.2.2 4 a) else S.2.2 t a)
theorem nB_B {S : cS} {h q : Nat} : kB (nB S h q) = kB S + 1 := rfl
theorem nB_F {S : cS} {h q x : Nat} (hx : x ≠ 35 + kB S) : kF (nB S h q) x = kF S x := if_neg hx
theorem nB_K {S : cS} {h q x : Nat} (hx : x ≠ 35 + kB S) : kK (nB S h q) x = kK S x := if_neg hx
theorem nB_N {S : cS} {h q x : Nat} (hx : x ≠ 35 + kB S) : kN (nB S h q) x = kN S x := if_neg hx
theorem nB_Q {S : cS} {h q x : Nat} (hx : x ≠ 35 + kB S) : kQ (nB S h q) x = kQ S x := if_neg hx
theorem nB_H {S : cS} {h q x : Nat} (hx : x ≠ 35 + kB S) : kH (nB S h q) x = kH S x := if_neg hx
theorem nB_K0 {S : cS} {h q : Nat} : kK (nB S h q) (35 + kB S) = 0 := if_pos rfl
theorem nB_HS {S : cS} {h q : Nat} : HS S (nB S h q) := ⟨Nat.le_succ _, fun r hr => nB_H (Nat.ne_of_lt hr)⟩
theorem nB_AW {S : cS} {h q : Nat} (hB : kB S ≤ 300) : AW [35] [] S (nB S h q) := ⟨fun _ _ => rfl, fun r hr _ => ⟨nB_F (Nat.ne_of_lt hr), nB_K (Nat.ne_of_lt hr)⟩, fun _ => rfl, Nat.le_succ _, fun k h1 h2 h3 => nB_F (by omega)⟩
theorem nB_PT {S : cS} {h q : Nat} : PT (nB S h q) = PT S + 2 := by
  show ((List.range (35 + (kB S + 1))).map (fun r => kN (nB S h q) r / 4 + 1)).sum = _
  rw [← Nat.add_assoc, List.range_succ, List.map_append, List.sum_append]
  have e : (List.range (35 + kB S)).map (fun r => kN (nB S h q) r / 4 + 1) = (List.range (35 + kB S)).map (fun r => kN S r / 4 + 1) := List.map_congr_left (fun x hx => by rw [nB_N (Nat.ne_of_lt (List.mem_range.mp hx))])
  rw [e]
  have e2 : kN (nB S h q) (35 + kB S) = 4 := if_pos rfl
  simp only [List.map_cons, List.map_nil, List.sum_cons, List.sum_nil, e2]
  rfl
theorem nB_CL {S : cS} {h q : Nat} (hC : CL S) (hb : kB S < 300) : CL (nB S h q) := by
  refine ⟨hb, fun r hr => ?_⟩
  by_cases e : r = 35 + kB S
  · subst e
    rw [nB_K0, show kN (nB S h q) (35 + kB S) = 4 from if_pos rfl]
    exact ⟨Nat.zero_le _, Nat.le_add_left _ _, Nat.zero_le _⟩
  · rw [nB_K e, nB_N e]
    exact hC.2 r (by have : r < 35 + (kB S + 1) := hr; omega)
theorem nB_cE {G : cG} {S : cS} {h q : Nat} (hb : kB S < 300) : ∀ k, k < 83 + 2 * kB S → k ≠ 12 → cE G (nB S h q) k = cE G S k := by
  have eH : ∀ x, x < 35 + kB S → kH (nB S h q) x = kH S x := fun x hx => nB_H (Nat.ne_of_lt hx)
  intro k hk h12
  match k, hk, h12 with
  | 0, _, _ => rfl
  | 1, _, _ => show (ga G 1, Sum.inr (_, oTree G (nB S h q))) = (ga G 1, Sum.inr (_, oTree G S)); unfold oTree; (rw [eH 0 (lt35 (by decide)), eH 1 (lt35 (by decide)), eH 2 (lt35 (by decide)), eH 3 (lt35 (by decide)), eH 4 (lt35 (by decide)), eH 5 (lt35 (by decide))]) <;> rfl
  | 2, _, _ => show (ga G 2, Sum.inr (_, oTypes G (nB S h q))) = (ga G 2, Sum.inr (_, oTypes G S)); unfold oTypes; (rw [eH 6 (lt35 (by decide)), eH 7 (lt35 (by decide)), eH 8 (lt35 (by decide)), eH 9 (lt35 (by decide)), eH 10 (lt35 (by decide)), eH 11 (lt35 (by decide)), eH 12 (lt35 (by decide)), eH 13 (lt35 (by decide)), eH 14 (lt35 (by decide)), eH 15 (lt35 (by decide)), eH 16 (lt35 (by decide)), eH 17 (lt35 (by decide)), eH 18 (lt35 (by decide))]) <;> rfl
  | 3, _, _ => show (ga G 3, Sum.inr (_, oTeller G (nB S h q))) = (ga G 3, Sum.inr (_, oTeller G S)); unfold oTeller; (rw [eH 19 (lt35 (by decide)), eH 20 (lt35 (by decide)), eH 21 (lt35 (by decide)), eH 22 (lt35 (by decide))]) <;> rfl
  | 4, _, _ => show (ga G 4, Sum.inr (_, oTyping G (nB S h q))) = (ga G 4, Sum.inr (_, oTyping G S)); unfold oTyping; (rw [eH 23 (lt35 (by decide)), eH 24 (lt35 (by decide)), eH 25 (lt35 (by decide)), eH 26 (lt35 (by decide))]) <;> rfl
  | 5, _, _ => show (ga G 5, Sum.inr (_, oWorking G (nB S h q))) = (ga G 5, Sum.inr (_, oWorking G S)); unfold oWorking; (rw [eH 27 (lt35 (by decide)), eH 28 (lt35 (by decide)), eH 29 (lt35 (by decide)), eH 30 (lt35 (by decide)), eH 31 (lt35 (by decide)), eH 32 (lt35 (by decide)), eH 33 (lt35 (by decide)), eH 34 (lt35 (by decide))]) <;> rfl
  | 6, _, _ => rfl
  | 7, _, _ => rfl
  | 8, _, _ => rfl
  | 9, _, _ => show (ga G 9, Sum.inl (gB G, 400, Sum.inl (kF (nB S h q) 400))) = _; rw [nB_F (by omega)]; rfl
  | 10, _, _ => show (ga G 10, Sum.inl (gB G, 400, Sum.inl (kF (nB S h q) 401))) = _; rw [nB_F (by omega)]; rfl
  | 11, _, _ => show (ga G 11, Sum.inl (gB G, 200, Sum.inl (kF (nB S h q) 402))) = _; rw [nB_F (by omega)]; rfl
  | 12, _, h12 => exact absurd rfl h12
  | k + 13, hk, _ =>
    have hr : k / 2 < 35 + kB S := by omega
    have hne : k / 2 ≠ 35 + kB S := Nat.ne_of_lt hr
    show (if k % 2 = 0 then (kH (nB S h q) (k / 2), _) else (kQ (nB S h q) (k / 2), _)) = (if k % 2 = 0 then (kH S (k / 2), _) else (kQ S (k / 2), _))
    rw [nB_H hne, nB_Q hne, nB_K hne, nB_N hne, nB_F hne]
theorem nB_W {G : cG} {S : cS} {h q : Nat} (hb : kB S < 300) : (cW G S ++ ([(h, .inr (0, [.ref q, .int (nI 0)])), (q, .inl (gI G, 4, .inl (fun _ => 0)))] : va_W)).set 12 (ga G 12, .inl (gR G, 300, .inr (.inr (.inr (.inr (va_up (fun j => if j < kB S then some (kH S (35 + j)) else none) (kB S) (some h))))))) = cW G (nB S h q) := by
  have hl : (cW G S).length = 83 + 2 * kB S := by unfold cW; simp
  apply List.ext_getElem?
  intro k
  rcases Nat.lt_or_ge k (83 + 2 * kB S) with hk | hk
  · rw [cW_at (S := nB S h q) (by rw [nB_B]; omega)]
    by_cases e : k = 12
    · subst e
      rw [List.getElem?_set_self (by simp [hl]; omega)]
      show some _ = some (ga G 12, Sum.inl (gR G, 300, Sum.inr (Sum.inr (Sum.inr (Sum.inr (fun j => if j < kB (nB S h q) then some (kH (nB S h q) (35 + j)) else none))))))
      have ef : va_up (fun j => if j < kB S then some (kH S (35 + j)) else none) (kB S) (some h) = (fun j => if j < kB (nB S h q) then some (kH (nB S h q) (35 + j)) else none) := by
        funext j
        by_cases e1 : j = kB S
        · subst e1
          rw [va_up_self, nB_B, if_pos (Nat.lt_succ_self _), show kH (nB S h q) (35 + kB S) = h from if_pos rfl]
        · rw [va_up_ne _ _ e1, nB_B, nB_H (x := 35 + j) (by omega)]
          by_cases e2 : j < kB S
          · rw [if_pos e2, if_pos (by omega)]
          · rw [if_neg e2, if_neg (by omega)]
      rw [ef]
    · rw [List.getElem?_set_ne (fun z => e z.symm), List.getElem?_append_left (by omega), cW_at hk, nB_cE hb k hk e]
  · rw [List.getElem?_set_ne (by omega), List.getElem?_append_right (by omega), hl]
    rcases Nat.lt_or_ge k (83 + 2 * kB S + 2) with h2 | h2
    · rw [cW_at (S := nB S h q) (by rw [nB_B]; omega)]
      rcases (by omega : k = 2 * (35 + kB S) + 13 ∨ k = 2 * (35 + kB S) + 1 + 13) with e | e
      · rw [e, cE_row, show 2 * (35 + kB S) + 13 - (83 + 2 * kB S) = 0 by omega, nB_K0, show kH (nB S h q) (35 + kB S) = h from if_pos rfl, show kQ (nB S h q) (35 + kB S) = q from if_pos rfl]
        rfl
      · rw [e, cE_arr, show 2 * (35 + kB S) + 1 + 13 - (83 + 2 * kB S) = 1 by omega, show kQ (nB S h q) (35 + kB S) = q from if_pos rfl, show kN (nB S h q) (35 + kB S) = 4 from if_pos rfl, show kF (nB S h q) (35 + kB S) = (fun _ => 0) from if_pos rfl]
        rfl
    · rw [List.getElem?_eq_none (by simp; omega), List.getElem?_eq_none (by unfold cW; simp [nB_B]; omega)]
theorem cpush {G : cG} {S : cS} {A0 : Nat → Prop} {H H1 : Heap} {e0 : Nat × va_E} {w1 : va_W} (hP : va_P (gD G) vwCl (cW G S ++ [e0]) H) (hD : va_D A0 (cW G S ++ [e0])) (hA : ∀ x, H.size ≤ x → A0 x) (hk : ∀ x, x < H.size → ¬ va_A [e0] H.size x → H1[x]? = H[x]?) (hP1 : va_P (gD G) vwCl w1 H1) (hD1 : va_D (va_A [e0] H.size) w1) : va_P (gD G) vwCl (cW G S ++ w1) H1 ∧ va_D A0 (cW G S ++ w1) := by
  have hl : (cW G S ++ [e0])[(cW G S).length]? = some e0 := by rw [List.getElem?_append_right (Nat.le_refl _)]; simp
  have old : ∀ k q, k < (cW G S).length → (cW G S ++ w1)[k]? = some q → (cW G S ++ [e0])[k]? = some q := fun k q hk h => by
    rw [List.getElem?_append_left hk] at h ⊢
    exact h
  have off : ∀ k q, k < (cW G S).length → (cW G S ++ [e0])[k]? = some q → ¬ va_A [e0] H.size q.1 := by
    rintro k q hk h (⟨j, e, he⟩ | h4)
    · have hj : j = 0 := by
        have := (List.getElem?_eq_some_iff.mp he).1
        simpa using this
      subst hj
      have e1 : e0 = (q.1, e) := by simpa using he
      have := hD.1 k _ q e0 h hl (by rw [e1])
      omega
    · have := (hP k q h).lt
      omega
  have inA : ∀ x, va_A [e0] H.size x → A0 x := by
    rintro x (⟨j, e, he⟩ | h4)
    · have hj : j = 0 := by
        have := (List.getElem?_eq_some_iff.mp he).1
        simpa using this
      subst hj
      have e1 : e0 = (x, e) := by simpa using he
      have := hD.2 _ _ hl
      rw [e1] at this
      exact this
    · exact hA x h4
  have new : ∀ k q, ¬ k < (cW G S).length → (cW G S ++ w1)[k]? = some q → w1[k - (cW G S).length]? = some q := fun k q hk h => by
    rw [List.getElem?_append_right (by omega)] at h
    exact h
  refine ⟨fun k q h => ?_, fun i j p q hi hj hpq => ?_, fun k q h => ?_⟩
  · by_cases h1 : k < (cW G S).length
    · have h2 := old k q h1 h
      exact (hP k q h2).kept (hk q.1 (hP k q h2).lt (off k q h1 h2))
    · exact hP1 _ q (new k q h1 h)
  · by_cases h1 : i < (cW G S).length
    · by_cases h2 : j < (cW G S).length
      · exact hD.1 i j p q (old i p h1 hi) (old j q h2 hj) hpq
      · exact absurd (hpq ▸ hD1.2 _ q (new j q h2 hj)) (off i p h1 (old i p h1 hi))
    · by_cases h2 : j < (cW G S).length
      · exact absurd (hpq ▸ hD1.2 _ p (new i p h1 hi)) (off j q h2 (old j q h2 hj))
      · have := hD1.1 _ _ p q (new i p h1 hi) (new j q h2 hj) hpq
        omega
  · by_cases h1 : k < (cW G S).length
    · exact hD.2 k q (old k q h1 h)
    · exact inA _ (hD1.2 _ q (new k q h1 h))

theorem in_X0_init : ∀ w ∈ wsX0_init, w ∈ CU := (List.forall_mem_cons.mpr ⟨C_34, (cm_app (List.forall_mem_cons.mpr ⟨C_35, (List.forall_mem_cons.mpr ⟨C_2, (List.forall_mem_cons.mpr ⟨C_3, (List.forall_mem_cons.mpr ⟨C_36, (List.forall_mem_cons.mpr ⟨C_37, cm_0⟩)⟩)⟩)⟩)⟩) cu_in0)⟩)
set_option maxHeartbeats 4000000 in
set_option maxRecDepth 100000 in
/-- emptyBounds -/
theorem y_emptyBounds (l : Launch) (G : cG) (S : cS) (sl : Nat) (hC : CL S) (hsl : sl < 300) (hsb : sl ≤ kB S) (Hs : Heap) : Met l yX4_emptyBounds (wC yX4_emptyBounds cX4_emptyBounds 3 none) (cRm S 2 40) (cPc G S Hs [.ref (ga G 2), .int (nI sl)]) (cQv G S Hs (fun u => AW [35] [] S u ∧ (sl < kB u ∧ kK u (35 + sl) = 0 ∧ ∀ j, j < kB S → j ≠ sl → kK u (35 + j) = kK S (35 + j)))) (CC - PT S) (12 * (CC - PT S)) (cA G S Hs.size) := by
  refine Met.ofW (cc := cX4_emptyBounds) (maxL := 3) (ret := none) (by decide) rfl ?_
  intro p e s m args below meth c s₁ B hml hv
  obtain ⟨rfl, hsz, hP, hK, hD0, -⟩ := hv
  have hx := B.exec
  have hb := B.bytes
  have hr := B.returns
  have htu : ∀ w ∈ CU, w.before _ s = true := fun w h => atoms_spec (ws := (wC yX4_emptyBounds cX4_emptyBounds 3 none)) B.pre w (List.mem_cons_of_mem _ h)
  have hown : s.vm.findClass RX4 = some m.cls := findClass_of_methodNamed B.named
  have hlocks := B.notSynchronized
  subst hsz
  have hD : cD (cA G S s.heap.size) G S := cD_self hD0
  have hl := lv_entry ([.ref (ga G 2), .int (nI sl)]) (n := 3) (Nat.le_of_ble_eq_true rfl)
  rw [lg_entry_eq]
  generalize (lg_sl ([.ref (ga G 2), .int (nI sl)]) ++ List.replicate (3 - (lg_sl ([.ref (ga G 2), .int (nI sl)])).length) Slot.unset).toArray = ls at hl ⊢
  have hl : lv_has ls 3 [(0, .ref (ga G 2)), (1, .int (nI sl))] := hl
  obtain ⟨H, hHe⟩ : ∃ H : Heap, H = s.heap := ⟨_, rfl⟩
  rw [← hHe] at hP
  have hS : va_S (cA G S s.heap.size) s.heap H [] := by rw [hHe]; exact va_S.rf
  have hh : HS S S := HS.rf
  have hpp : PT S ≤ PT S := Nat.le_refl _
  have hB9 := hC.1
  refine W.heq hHe ?_
  refine c_ent (S := S) ?_
  refine lv_iload_n hx hb dX4_emptyBounds_0 rfl (lv_at hl 1 rfl) ?_
  refine lv_if_lt (tgt := 13) hx hb dX4_emptyBounds_1 (by decide) (fun c_1 => absurd c_1 (nI_n0 (by omega))) (fun c_1 => ?_)
  refine lv_iload_n hx hb dX4_emptyBounds_4 rfl (lv_at hl 1 rfl) ?_
  refine lv_aload_n hx hb dX4_emptyBounds_5 rfl (lv_at hl 0 rfl) ?_
  refine va_get (D := gD G) (ci := 4) (v := .ref (ga G 12)) (C := RX4) (T := TX4) (N := 14) hx hb htu cu_in4 hown hK hP 2 cw_2 rfl 9 (by decide) (htu _ C_75) (fun _ h9 => h9) rfl dX4_emptyBounds_6 ?_
  refine va_alen hx hb hK hP 12 2 cw_12 rfl (v := 300) rfl dX4_emptyBounds_9 ?_
  refine lv_icmp_lt (tgt := 14) hx hb dX4_emptyBounds_10 (by decide) (fun c_2 => ?_) (fun c_2 => absurd ((nI_ltI (a := sl) (b := 300) (by omega) (by omega)).mpr hsl) c_2)
  refine lv_aload_n hx hb dX4_emptyBounds_14 rfl (lv_at hl 0 rfl) ?_
  refine va_get (D := gD G) (ci := 4) (v := .ref (ga G 12)) (C := RX4) (T := TX4) (N := 14) hx hb htu cu_in4 hown hK hP 2 cw_2 rfl 9 (by decide) (htu _ C_75) (fun _ h9 => h9) rfl dX4_emptyBounds_15 ?_
  refine lv_iload_n hx hb dX4_emptyBounds_18 rfl (lv_at hl 1 rfl) ?_
  refine va_aldq hx hb hK hP 12 2 cw_12 rfl (i := nI sl) (vp_in_nI hsl (by decide)) dX4_emptyBounds_19 ?_
  rw [nI_clamp (by omega)]
  rcases Nat.lt_or_ge sl (kB S) with hlt | hge
  · skip
    rw [show va_rf (if sl < kB S then some (kH S (35 + sl)) else none) = .ref (kH S (35 + sl)) by rw [if_pos hlt]; rfl]
    refine lv_astore_n (lv' := [(2, .ref (kH S (35 + sl))), (0, .ref (ga G 2)), (1, .int (nI sl))]) hx hb dX4_emptyBounds_20 rfl hl (by decide) rfl (fun ls hl => ?_)
    refine lv_aload_n hx hb dX4_emptyBounds_21 rfl (lv_at hl 0 rfl) ?_
    refine lv_ifnonnull (tgt := 41) hx hb dX4_emptyBounds_22 (by decide) ?_
    refine lv_aload_n hx hb dX4_emptyBounds_41 rfl (lv_at hl 0 rfl) ?_
    refine lv_iconst (v := 0) hx hb dX4_emptyBounds_42 (by decide) ?_
    have hC0 := hC
    refine c_cv (c_runV (As := [.int 0]) (rest := []) (q0 := (2 * (35 + sl) + 13)) (ci := 0) ⟨hx, hb, hml, hown, htu⟩ (c_cutA l G S (35 + sl) (by omega) hC (kH S (35 + sl)) rfl 0 H) (cwV 1 htu hU_X4_61 rfl rfl rfl (by decide +kernel) ⟨Nat.le_of_ble_eq_true rfl, Nat.le_of_ble_eq_true rfl⟩) hP hK hD hC hpp (c_hd rfl (cw_row (by omega))) rfl rfl hl.1 rfl (lv_room (Nat.le_of_ble_eq_true rfl)) dX4_emptyBounds_43) hS hD hh hpp (fun S_4 H locs hw_5 hP hD hS hC hh hs_6 hpp => ?_)
    try dsimp only at hw_5
    have aw_7 : AW [35] [] S S_4 := (by rw [hw_5]; exact AW.u (by first | (simp; omega) | simp))
    have aw_7t : AW [35] [] S S_4 := AW.rf.tr (aw_7.mono (by decide) (by decide))
    have ha_8r : 35 + sl < 35 + kB S_4 := by have := hs_6.1; have := (by omega); omega
    have ha_8 : kH S_4 (35 + sl) = kH S (35 + sl) := (hs_6.2 (35 + sl) (by omega)).trans rfl
    have kk_9 : kK S_4 (35 + sl) = 0 := by rw [hw_5]; exact uR_K.trans (rcut_0 _ (by have := hC0.2 (35 + sl) (by omega); have := lim_le (35 + sl); omega))
    exact c_vret hx hb hr hK hP hD hS hC hh hpp ⟨aw_7t, ⟨Nat.lt_of_lt_of_le hlt aw_7t.2.2.2.1, by rw [hw_5]; exact uR_K.trans (rcut_0 _ (by have := hC0.2 (35 + sl) (by omega); have := lim_le (35 + sl); omega)), fun j hj hne => by rw [hw_5]; exact uR_Ko (by omega)⟩⟩ dX4_emptyBounds_46 hlocks
  · skip
    obtain rfl : sl = kB S := by omega
    rw [show va_rf (if kB S < kB S then some (kH S (35 + kB S)) else none) = .null by rw [if_neg (Nat.lt_irrefl _)]; rfl]
    refine lv_astore_nN (lv' := [(2, .null), (0, .ref (ga G 2)), (1, .int (nI (kB S)))]) hx hb dX4_emptyBounds_20 rfl hl (by decide) rfl (fun ls hl => ?_)
    refine lv_aload_nN hx hb dX4_emptyBounds_21 rfl (lv_at hl 0 rfl) ?_
    refine lv_ifnonnullN hx hb dX4_emptyBounds_22 ?_
    refine lv_aload_n hx hb dX4_emptyBounds_25 rfl (lv_at hl 1 rfl) ?_
    refine va_get (D := gD G) (ci := 4) (v := .ref (ga G 12)) (C := RX4) (T := TX4) (N := 14) hx hb htu cu_in4 hown hK hP 2 cw_2 rfl 9 (by decide) (htu _ C_75) (fun _ h9 => h9) rfl dX4_emptyBounds_26 ?_
    refine lv_iload_n hx hb dX4_emptyBounds_29 rfl (lv_at hl 2 rfl) ?_
    have hcl0 : ∀ h q, CL (nB S h q) := fun h q => nB_CL hC (by omega)
    have hroom : PT S + 2 ≤ CC := by have h1 := (hcl0 0 0).pp; rw [nB_PT] at h1; exact h1
    refine va_new (D := gD G) (ci := 0) (fs := [.null, .int 0]) (C := RX0) (T := TX0) (N := 2) hx hb htu cu_in0 tyX0 tyX0_ok hown (htu _ C_65) (htu _ C_24) (htu _ C_25) hK hP hD hS (fun q h => Or.inr h) rfl (by decide +kernel) (show PT S - PT S + 1 ≤ CC - PT S by omega) (show 12 * (PT S - PT S) + 2 ≤ 12 * (CC - PT S) by omega) dX4_emptyBounds_30 (fun qn H hP hD hS => ?_)
    refine lv_dup hx hb dX4_emptyBounds_33 rfl ?_
    have hln : (cW G S ++ [(qn, (.inr (0, [.null, .int 0]) : va_E))])[(cW G S).length]? = some (qn, .inr (0, [.null, .int 0])) := by rw [List.getElem?_append_right (Nat.le_refl _)]; simp
    have hPc : va_P (gD G) vwCl [(qn, .inr (0, [.null, .int 0]))] H := fun k q h => by
      have hj : k = 0 := by have := (List.getElem?_eq_some_iff.mp h).1; simpa using this
      subst hj
      have e1 : (qn, (.inr (0, [.null, .int 0]) : va_E)) = q := by simpa using h
      rw [← e1]
      exact hP _ _ hln
    have hDc : va_D (fun _ => True) [(qn, (.inr (0, [.null, .int 0]) : va_E))] := ⟨fun i j p q hi hj _ => by
      have h1 := (List.getElem?_eq_some_iff.mp hi).1
      have h2 := (List.getElem?_eq_some_iff.mp hj).1
      simp at h1 h2
      omega, fun _ _ _ => trivial⟩
    have hFc : ∀ x, va_A [(qn, (.inr (0, [.null, .int 0]) : va_E))] H.size x → cA G S s.heap.size x := by
      rintro x (⟨j, e, he⟩ | h4)
      · have hj : j = 0 := by have := (List.getElem?_eq_some_iff.mp he).1; simpa using this
        subst hj
        have e1 : (qn, (.inr (0, [.null, .int 0]) : va_E)) = (x, e) := by simpa using he
        have h5 := hD.2 _ _ hln
        rw [e1] at h5
        exact h5
      · exact Or.inr (Nat.le_trans hS.1 h4)
    refine va_callv (va_runI (As := []) (rest := [.ref qn, .int (nI (kB S)), .ref (ga G 12)]) ⟨hx, hb, hml, hown, htu⟩ (c_Row_init l (gD G).1 (gD G).2 (gI G) qn H.size) (cwI 0 htu (wc_good in_X0_init) rfl rfl rfl (htu _ C_25) (htu _ C_80) (htu _ C_33) rfl (by decide +kernel) ⟨Nat.le_of_ble_eq_true rfl, Nat.le_of_ble_eq_true rfl⟩) ⟨fun a U g mk q => by obtain ⟨q0, q1, qP, qK, qD⟩ := q; exact ⟨q0, q1, qP, va_K.moved (u := U) (U := U.calling g mk a) (Vm.Alike.refl U.vm) qK, qD⟩, fun U hU hW => ⟨rfl, by rw [hU], by rw [hU]; exact hPc, va_K.moved hW.alike (cK_i hK), hDc⟩⟩ rfl rfl hl.1 rfl (lv_room (Nat.le_of_ble_eq_true rfl)) dX4_emptyBounds_34 ⟨(show PT S - PT S + 1 + 1 ≤ CC - PT S by omega), (show 12 * (PT S - PT S) + 2 + 4 ≤ 12 * (CC - PT S) by omega)⟩) hS (fun q _ h => hFc q h) hFc (fun u t H1 locs ht hvm hw hB hz1 hk1 hS => ?_)
    obtain ⟨q2, hP1, hK1, hD1⟩ := hB
    rw [ht] at hP1
    obtain ⟨hP, hD⟩ := cpush hP hD (fun x h => hFc x (Or.inr h)) hk1 hP1 hD1
    refine va_astq (D := gD G) (cl := vwCl) (r := (RX0, TX0, 2)) hx hb hK hP hD hS 12 2 (cW G S).length 0 (by rw [List.getElem?_append_left (by unfold cW; simp; omega)]; exact cw_12) rfl (by rw [List.getElem?_append_right (Nat.le_refl _), Nat.sub_self]; rfl) rfl (vp_in_nI hsl (by decide)) dX4_emptyBounds_37 (fun H locs hP hD hS => ?_)
    rw [nI_clamp (by omega), nB_W (by omega)] at hP hD
    refine lv_goto (tgt := 46) hx hb dX4_emptyBounds_38 (by decide) ?_
    refine W.widen (k := PT (nB S qn q2) - PT S) (n := 12 * (PT (nB S qn q2) - PT S)) (by rw [nB_PT]; omega) (by rw [nB_PT]; omega) ?_
    exact c_vret hx hb hr hK hP hD hS (hcl0 qn q2) nB_HS (by rw [nB_PT]; omega) ⟨nB_AW hC.1, Nat.lt_succ_self _, nB_K0, fun j hj hne => nB_K (by omega)⟩ dX4_emptyBounds_46 hlocks

