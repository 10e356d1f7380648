theorem dX4_emptyBounds_0 : decode cX4_emptyBounds 0 = .ok (.iload_n 1, 1) := by decide +kernel
theorem dX4_emptyBounds_1 : decode cX4_emptyBounds 1 = .ok (.ifCond .lt 12, 3) := by decide +kernel
theorem dX4_emptyBounds_4 : decode cX4_emptyBounds 4 = .ok (.iload_n 1, 1) := by decide +kernel
theorem dX4_emptyBounds_5 : decode cX4_emptyBounds 5 = .ok (.aload_n 0, 1) := by decide +kernel
theorem dX4_emptyBounds_6 : decode cX4_emptyBounds 6 = .ok (.getfield 42, 3) := by decide +kernel
theorem dX4_emptyBounds_9 : decode cX4_emptyBounds 9 = .ok (.arraylength, 1) := by decide +kernel
theorem dX4_emptyBounds_10 : decode cX4_emptyBounds 10 = .ok (.if_icmp .lt 4, 3) := by decide +kernel
theorem dX4_emptyBounds_14 : decode cX4_emptyBounds 14 = .ok (.aload_n 0, 1) := by decide +kernel
theorem dX4_emptyBounds_15 : decode cX4_emptyBounds 15 = .ok (.getfield 42, 3) := by decide +kernel
theorem dX4_emptyBounds_18 : decode cX4_emptyBounds 18 = .ok (.iload_n 1, 1) := by decide +kernel
theorem dX4_emptyBounds_19 : decode cX4_emptyBounds 19 = .ok (.aaload, 1) := by decide +kernel
theorem dX4_emptyBounds_20 : decode cX4_emptyBounds 20 = .ok (.astore_n 2, 1) := by decide +kernel
theorem dX4_emptyBounds_21 : decode cX4_emptyBounds 21 = .ok (.aload_n 2, 1) := by decide +kernel
theorem dX4_emptyBounds_22 : decode cX4_emptyBounds 22 = .ok (.ifnonnull 19, 3) := by decide +kernel
theorem dX4_emptyBounds_41 : decode cX4_emptyBounds 41 = .ok (.aload_n 2, 1) := by decide +kernel
theorem dX4_emptyBounds_42 : decode cX4_emptyBounds 42 = .ok (.iconst 0, 1) := by decide +kernel
theorem dX4_emptyBounds_43 : decode cX4_emptyBounds 43 = .ok (.invokevirtual 61, 3) := by decide +kernel
theorem dX4_emptyBounds_46 : decode cX4_emptyBounds 46 = .ok (.return_, 1) := by decide +kernel
theorem dX4_emptyBounds_25 : decode cX4_emptyBounds 25 = .ok (.aload_n 0, 1) := by decide +kernel
theorem dX4_emptyBounds_26 : decode cX4_emptyBounds 26 = .ok (.getfield 42, 3) := by decide +kernel
theorem dX4_emptyBounds_29 : decode cX4_emptyBounds 29 = .ok (.iload_n 1, 1) := by decide +kernel
theorem dX4_emptyBounds_30 : decode cX4_emptyBounds 30 = .ok (.new 9, 3) := by decide +kernel
theorem dX4_emptyBounds_33 : decode cX4_emptyBounds 33 = .ok (.dup, 1) := by decide +kernel
theorem dX4_emptyBounds_34 : decode cX4_emptyBounds 34 = .ok (.invokespecial 11, 3) := by decide +kernel
theorem dX4_emptyBounds_37 : decode cX4_emptyBounds 37 = .ok (.aastore, 1) := by decide +kernel
theorem dX4_emptyBounds_38 : decode cX4_emptyBounds 38 = .ok (.goto 8, 3) := by decide +kernel
/-! ===== one more row of bounds ===== -/
def nB (S : cS) (h q : Nat) : cS := (S.1, fun a => if a = 35 + kB S then (fun _ => 0) else S.2.1 a, fun t a => if t = 0 then (if a = 35 + kB S then 0 else S.2.2 0 a) else if t = 1 then (if a = 35 + kB S then 4 else S.2.2 1 a) else if t = 2 then (if a = 35 + kB S then q else S.2.2 2 a) else if t = 3 then (if a = 35 + kB S then h else S.2.2 3 a) else if t = 4 then (if a = 0 then kB S + 1 else S.2.2 4 a) else S.2.2 t a)
theorem nB_B {S : cS} {h q : Nat} : kB (nB S h q) = kB S + 1 := rfl
theorem nB_F {S : cS} {h q x : Nat} (hx : x ≠ 35 + kB S) : kF (nB S h q) x = kF S x := if_neg hx
theorem nB_K {S : cS} {h q x : Nat} (hx : x ≠ 35 + kB S) : kK (nB S h q) x = kK S x := if_neg hx
theorem nB_N {S : cS} {h q x : Nat} (hx : x ≠ 35 + kB S) : kN (nB S h q) x = kN S x := if_neg hx
theorem nB_Q {S : cS} {h q x : Nat} (hx : x ≠ 35 + kB S) : kQ (nB S h q) x = kQ S x := if_neg hx
theorem nB_H {S : cS} {h q x : Nat} (hx : x ≠ 35 + kB S) : kH (nB S h q) x = kH S x := if_neg hx
theorem nB_K0 {S : cS} {h q : Nat} : kK (nB S h q) (35 + kB S) = 0 := if_pos rfl
theorem nB_HS {S : cS} {h q : Nat} : HS S (nB S h q) := ⟨Nat.le_succ _, fun r hr => nB_H (Nat.ne_of_lt hr)⟩
theorem nB_AW {S : cS} {h q : Nat} (hB : kB S ≤ 300) : AW [35] [] S (nB S h q) := ⟨fun _ _ => rfl, fun r hr _ => ⟨nB_F (Nat.ne_of_lt hr), nB_K (Nat.ne_of_lt hr)⟩, fun _ => rfl, Nat.le_succ _, fun k h1 h2 h3 => nB_F (by omega)⟩
theorem nB_PT {S : cS} {h q : Nat} : PT (nB S h q) = PT S + 2 := by
  show ((List.range (35 + (kB S + 1))).map (fun r => kN (nB S h q) r / 4 + 1)).sum = _
  rw [← Nat.add_assoc, List.range_succ, List.map_append, List.sum_append]
  have e : (List.range (35 + kB S)).map (fun r => kN (nB S h q) r / 4 + 1) = (List.range (35 + kB S)).map (fun r => kN S r / 4 + 1) := List.map_congr_left (fun x hx => by rw [nB_N (Nat.ne_of_lt (List.mem_range.mp hx))])
  rw [e]
  have e2 : kN (nB S h q) (35 + kB S) = 4 := if_pos rfl
  simp only [List.map_cons, List.map_nil, List.sum_cons, List.sum_nil, e2]
  rfl
theorem nB_CL {S : cS} {h q : Nat} (hC : CL S) (hb : kB S < 300) : CL (nB S h q) := by
  refine ⟨hb, fun r hr => ?_⟩
  by_cases e : r = 35 + kB S
  · subst e
    rw [nB_K0, show kN (nB S h q) (35 + kB S) = 4 from if_pos rfl]
    exact ⟨Nat.zero_le _, Nat.le_add_left _ _, Nat.zero_le _⟩
  · rw [nB_K e, nB_N e]
    exact hC.2 r (by have : r < 35 + (kB S + 1) := hr; omega)
theorem nB_cE {G : cG} {S : cS} {h q : Nat} (hb : kB S < 300) : ∀ k, k < 83 + 2 * kB S → k ≠ 12 → cE G (nB S h q) k = cE G S k := by
  have eH : ∀ x, x < 35 + kB S → kH (nB S h q) x = kH S x := fun x hx => nB_H (Nat.ne_of_lt hx)
  intro k hk h12
  match k, hk, h12 with
  | 0, _, _ => rfl
  | 1, _, _ => show (ga G 1, Sum.inr (_, oTree G (nB S h q))) = (ga G 1, Sum.inr (_, oTree G S)); unfold oTree; (rw [eH 0 (lt35 (by decide)), eH 1 (lt35 (by decide)), eH 2 (lt35 (by decide)), eH 3 (lt35 (by decide)), eH 4 (lt35 (by decide)), eH 5 (lt35 (by decide))]) <;> rfl
  | 2, _, _ => show (ga G 2, Sum.inr (_, oTypes G (nB S h q))) = (ga G 2, Sum.inr (_, oTypes G S)); unfold oTypes; (rw [eH 6 (lt35 (by decide)), eH 7 (lt35 (by decide)), eH 8 (lt35 (by decide)), eH 9 (lt35 (by decide)), eH 10 (lt35 (by decide)), eH 11 (lt35 (by decide)), eH 12 (lt35 (by decide)), eH 13 (lt35 (by decide)), eH 14 (lt35 (by decide)), eH 15 (lt35 (by decide)), eH 16 (lt35 (by decide)), eH 17 (lt35 (by decide)), eH 18 (lt35 (by decide))]) <;> rfl
  | 3, _, _ => show (ga G 3, Sum.inr (_, oTeller G (nB S h q))) = (ga G 3, Sum.inr (_, oTeller G S)); unfold oTeller; (rw [eH 19 (lt35 (by decide)), eH 20 (lt35 (by decide)), eH 21 (lt35 (by decide)), eH 22 (lt35 (by decide))]) <;> rfl
  | 4, _, _ => show (ga G 4, Sum.inr (_, oTyping G (nB S h q))) = (ga G 4, Sum.inr (_, oTyping G S)); unfold oTyping; (rw [eH 23 (lt35 (by decide)), eH 24 (lt35 (by decide)), eH 25 (lt35 (by decide)), eH 26 (lt35 (by decide))]) <;> rfl
  | 5, _, _ => show (ga G 5, Sum.inr (_, oWorking G (nB S h q))) = (ga G 5, Sum.inr (_, oWorking G S)); unfold oWorking; (rw [eH 27 (lt35 (by decide)), eH 28 (lt35 (by decide)), eH 29 (lt35 (by decide)), eH 30 (lt35 (by decide)), eH 31 (lt35 (by decide)), eH 32 (lt35 (by decide)), eH 33 (lt35 (by decide)), eH 34 (lt35 (by decide))]) <;> rfl
  | 6, _, _ => rfl
  | 7, _, _ => rfl
  | 8, _, _ => rfl
  | 9, _, _ => show (ga G 9, Sum.inl (gB G, 400, Sum.inl (kF (nB S h q) 400))) = _; rw [nB_F (by omega)]; rfl
  | 10, _, _ => show (ga G 10, Sum.inl (gB G, 400, Sum.inl (kF (nB S h q) 401))) = _; rw [nB_F (by omega)]; rfl
  | 11, _, _ => show (ga G 11, Sum.inl (gB G, 200, Sum.inl (kF (nB S h q) 402))) = _; rw [nB_F (by omega)]; rfl
  | 12, _, h12 => exact absurd rfl h12
  | k + 13, hk, _ =>
    have hr : k / 2 < 35 + kB S := by omega
    have hne : k / 2 ≠ 35 + kB S := Nat.ne_of_lt hr
    show (if k % 2 = 0 then (kH (nB S h q) (k / 2), _) else (kQ (nB S h q) (k / 2), _)) = (if k % 2 = 0 then (kH S (k / 2), _) else (kQ S (k / 2), _))
    rw [nB_H hne, nB_Q hne, nB_K hne, nB_N hne, nB_F hne]
theorem nB_W {G : cG} {S : cS} {h q : Nat} (hb : kB S < 300) : (cW G S ++ ([(h, .inr (0, [.ref q, .int (nI 0)])), (q, .inl (gI G, 4, .inl (fun _ => 0)))] : va_W)).set 12 (ga G 12, .inl (gR G, 300, .inr (.inr (.inr (.inr (va_up (fun j => if j < kB S then some (kH S (35 + j)) else none) (kB S) (some h))))))) = cW G (nB S h q) := by
  have hl : (cW G S).length = 83 + 2 * kB S := by unfold cW; simp
  apply List.ext_getElem?
  intro k
  rcases Nat.lt_or_ge k (83 + 2 * kB S) with hk | hk
  · rw [cW_at (S := nB S h q) (by rw [nB_B]; omega)]
    by_cases e : k = 12
    · subst e
      rw [List.getElem?_set_self (by simp [hl]; omega)]
      show some _ = some (ga G 12, Sum.inl (gR G, 300, Sum.inr (Sum.inr (Sum.inr (Sum.inr (fun j => if j < kB (nB S h q) then some (kH (nB S h q) (35 + j)) else none))))))
      have ef : va_up (fun j => if j < kB S then some (kH S (35 + j)) else none) (kB S) (some h) = (fun j => if j < kB (nB S h q) then some (kH (nB S h q) (35 + j)) else none) := by
        funext j
        by_cases e1 : j = kB S
        · subst e1
          rw [va_up_self, nB_B, if_pos (Nat.lt_succ_self _), show kH (nB S h q) (35 + kB S) = h from if_pos rfl]
        · rw [va_up_ne _ _ e1, nB_B, nB_H (x := 35 + j) (by omega)]
          by_cases e2 : j < kB S
          · rw [if_pos e2, if_pos (by omega)]
          · rw [if_neg e2, if_neg (by omega)]
      rw [ef]
    · rw [List.getElem?_set_ne (fun z => e z.symm), List.getElem?_append_left (by omega), cW_at hk, nB_cE hb k hk e]
  · rw [List.getElem?_set_ne (by omega), List.getElem?_append_right (by omega), hl]
    rcases Nat.lt_or_ge k (83 + 2 * kB S + 2) with h2 | h2
    · rw [cW_at (S := nB S h q) (by rw [nB_B]; omega)]
      rcases (by omega : k = 2 * (35 + kB S) + 13 ∨ k = 2 * (35 + kB S) + 1 + 13) with e | e
      · rw [e, cE_row, show 2 * (35 + kB S) + 13 - (83 + 2 * kB S) = 0 by omega, nB_K0, show kH (nB S h q) (35 + kB S) = h from if_pos rfl, show kQ (nB S h q) (35 + kB S) = q from if_pos rfl]
        rfl
      · rw [e, cE_arr, show 2 * (35 + kB S) + 1 + 13 - (83 + 2 * kB S) = 1 by omega, show kQ (nB S h q) (35 + kB S) = q from if_pos rfl, show kN (nB S h q) (35 + kB S) = 4 from if_pos rfl, show kF (nB S h q) (35 + kB S) = (fun _ => 0) from if_pos rfl]
        rfl
    · rw [List.getElem?_eq_none (by simp; omega), List.getElem?_eq_none (by unfold cW; simp [nB_B]; omega)]
theorem cpush {G : cG} {S : cS} {A0 : Nat → Prop} {H H1 : Heap} {e0 : Nat × va_E} {w1 : va_W} (hP : va_P (gD G) vwCl (cW G S ++ [e0]) H) (hD : va_D A0 (cW G S ++ [e0])) (hA : ∀ x, H.size ≤ x → A0 x) (hk : ∀ x, x < H.size → ¬ va_A [e0] H.size x → H1[x]? = H[x]?) (hP1 : va_P (gD G) vwCl w1 H1) (hD1 : va_D (va_A [e0] H.size) w1) : va_P (gD G) vwCl (cW G S ++ w1) H1 ∧ va_D A0 (cW G S ++ w1) := by
  have hl : (cW G S ++ [e0])[(cW G S).length]? = some e0 := by rw [List.getElem?_append_right (Nat.le_refl _)]; simp
  have old : ∀ k q, k < (cW G S).length → (cW G S ++ w1)[k]? = some q → (cW G S ++ [e0])[k]? = some q := fun k q hk h => by
    rw [List.getElem?_append_left hk] at h ⊢
    exact h
  have off : ∀ k q, k < (cW G S).length → (cW G S ++ [e0])[k]? = some q → ¬ va_A [e0] H.size q.1 := by
    rintro k q hk h (⟨j, e, he⟩ | h4)
    · have hj : j = 0 := by
        have := (List.getElem?_eq_some_iff.mp he).1
        simpa using this
      subst hj
      have e1 : e0 = (q.1, e) := by simpa using he
      have := hD.1 k _ q e0 h hl (by rw [e1])
      omega
    · have := (hP k q h).lt
      omega
  have inA : ∀ x, va_A [e0] H.size x → A0 x := by
    rintro x (⟨j, e, he⟩ | h4)
    · have hj : j = 0 := by
        have := (List.getElem?_eq_some_iff.mp he).1
        simpa using this
      subst hj
      have e1 : e0 = (x, e) := by simpa using he
      have := hD.2 _ _ hl
      rw [e1] at this
      exact this
    · exact hA x h4
  have new : ∀ k q, ¬ k < (cW G S).length → (cW G S ++ w1)[k]? = some q → w1[k - (cW G S).length]? = some q := fun k q hk h => by
    rw [List.getElem?_append_right (by omega)] at h
    exact h
  refine ⟨fun k q h => ?_, fun i j p q hi hj hpq => ?_, fun k q h => ?_⟩
  · by_cases h1 : k < (cW G S).length
    · have h2 := old k q h1 h
      exact (hP k q h2).kept (hk q.1 (hP k q h2).lt (off k q h1 h2))
    · exact hP1 _ q (new k q h1 h)
  · by_cases h1 : i < (cW G S).length
    · by_cases h2 : j < (cW G S).length
      · exact hD.1 i j p q (old i p h1 hi) (old j q h2 hj) hpq
      · exact absurd (hpq ▸ hD1.2 _ q (new j q h2 hj)) (off i p h1 (old i p h1 hi))
    · by_cases h2 : j < (cW G S).length
      · exact absurd (hpq ▸ hD1.2 _ p (new i p h1 hi)) (off j q h2 (old j q h2 hj))
      · have := hD1.1 _ _ p q (new i p h1 hi) (new j q h2 hj) hpq
        omega
  · by_cases h1 : k < (cW G S).length
    · exact hD.2 k q (old k q h1 h)
    · exact inA _ (hD1.2 _ q (new k q h1 h))

theorem in_X0_init : ∀ w ∈ wsX0_init, w ∈ CU := (List.forall_mem_cons.mpr ⟨C_34, (cm_app (List.forall_mem_cons.mpr ⟨C_35, (List.forall_mem_cons.mpr ⟨C_2, (List.forall_mem_cons.mpr ⟨C_3, (List.forall_mem_cons.mpr ⟨C_36, (List.forall_mem_cons.mpr ⟨C_37, cm_0⟩)⟩)⟩)⟩)⟩) cu_in0)⟩)
