/-- how many parts a node of kind m has -/
def prts (m q : Nat) : Nat := if m < 3 then 0 else if m = 5 then q else if m = 3 ∨ m = 6 then 1 else if m = 9 then 3 else 2
/-- a tree: who is above, ranks, parts -/
def Tre (tr : aM) (rk : Nat → Nat) (Vd : Nat → Prop) : Prop :=
  (∀ c, tr 3 c ≠ 0 → rk (tr 3 c - 1) < rk c) ∧
  (∀ n i, Vd n → i < prts (tr 0 n) (tr 2 n) → tr 3 (tr (10 + i) n) = n + 1 ∧ Vd (tr (10 + i) n)) ∧
  ∀ n, Vd n → tr 0 n = 7 → tr 11 n ≠ tr 10 n
theorem TyG.stop {rk : Nat → Nat} {s : aS} {y : aG} {c l n : Nat} (hI : Inv s y c) (h : sto s ≠ 0) (x : Nat) : TyG rk s y c l n (s, x) :=
  ⟨fun h => h, y, hI, Ex.rf, ⟨Nat.le_refl _, fun _ _ => Nat.le_refl _⟩, fun _ _ => ⟨rfl, rfl⟩, fun h' => absurd h' h⟩
theorem TyG.plain {rk : Nat → Nat} {s : aS} {y : aG} {c l n t : Nat} (hI : Inv s y c) (hW : W2 s) (ht : t ≤ 1) : TyG rk s y c l n (s, t) := by
  obtain ⟨w1', w2', w3, w4⟩ := pl_ok (l := l) hI ht hW
  exact ⟨fun h => h, y, hI, Ex.rf, ⟨Nat.le_refl _, fun _ _ => Nat.le_refl _⟩, fun _ _ => ⟨rfl, rfl⟩, fun _ => ⟨w1', w2'⟩⟩
theorem ncov {tr : aM} {n p : Nat} (h3 : tr 0 n ≠ 3) (h7 : tr 0 n ≠ 7) (h8 : tr 0 n ≠ 8) : ¬ covers tr n p := fun h => by
  rcases h with h | h | h
  · exact h3 h
  · exact h7 h.1
  · exact h8 h
theorem ty_ok {tr : aM} {top : Nat} {rk : Nat → Nat} {Vd : Nat → Prop} (hT : Tre tr rk Vd) : ∀ k, TyF tr top rk Vd (ty tr top k)
  | 0 => fun s y c n l _ _ hI _ _ => by
    obtain ⟨u1, u2⟩ := i_stops (w := 1) (p := n) hI
    have e : ty tr top 0 s n l = (stops s 1 n, 0) := rfl
    rw [e]
    have e8 : (stops s 1 n).1 8 = s.1 8 ∧ (stops s 1 n).1 9 = s.1 9 := by
      unfold stops
      split <;> exact ⟨rfl, rfl⟩
    have hst : sto (stops s 1 n) ≠ 0 := sto_stops (by omega)
    exact ⟨fun _ => hst, y, u1, u2, ⟨Nat.le_refl _, fun _ _ => Nat.le_refl _⟩, fun u _ => ⟨congrFun e8.1 u, congrFun e8.2 u⟩, fun h => absurd h hst⟩
  | k + 1 => fun s y c n l hv hW hI hz hC => by
    have hf := ty_ok (top := top) hT k
    have hfs : TyS (ty tr top k) := ty_stop k
    have hr := hT.1
    by_cases h0 : sto s ≠ 0
    · have e : ty tr top (k + 1) s n l = (s, 0) := by
        unfold ty
        rw [if_pos h0]
      rw [e]
      exact TyG.stop hI h0 0
    have h0' : sto s = 0 := by omega
    have P : ∀ i, i < prts (tr 0 n) (tr 2 n) → tr 3 (tr (10 + i) n) = n + 1 ∧ Vd (tr (10 + i) n) := fun i hi => hT.2.1 n i hv hi
    unfold ty
    rw [if_neg h0]
    split
    · exact TyG.plain hI hW (by omega)
    · exact TyG.plain hI hW (by omega)
    · obtain ⟨y', a1, a2, a3, ⟨a4, a5⟩, a6⟩ := name_ok (n := n) hI hz h0' hC
      exact ⟨fun h => absurd h0' h, y', a1, a2, a3, fun u _ => ⟨congrFun a4 u, congrFun a5 u⟩, a6⟩
    · rename_i hk
      have p0 := P 0 (by rw [hk]; simp [prts])
      exact function_ok hf hfs hr h0' hW hI hz hC p0.1 p0.2 rfl rfl
    · rename_i hk
      have p0 := P 0 (by rw [hk]; simp [prts])
      have p1 := P 1 (by rw [hk]; simp [prts])
      have nc : ∀ p, ¬ covers tr n p := fun p => ncov (by omega) (by omega) (by omega)
      exact apply_ok hf hr h0' hW hI hz hC p0.1 p1.1 p0.2 p1.2 (nc _) (nc _) rfl rfl rfl rfl
    · rename_i hk
      have nc : ∀ p, ¬ covers tr n p := fun p => ncov (by omega) (by omega) (by omega)
      refine rec2_ok hf hr h0' hW hI hz hC (xs := (List.range (tr 2 n)).map (fun i => tr (10 + i) n)) (fun p hp => ?_) (by simp) rfl
      obtain ⟨i, hi, e⟩ := List.mem_map.1 hp
      have hi' := List.mem_range.1 hi
      have p0 := P i (by rw [hk]; simpa [prts] using hi')
      rw [← e]
      exact ⟨p0.1, p0.2, nc _⟩
    · rename_i hk
      have p0 := P 0 (by rw [hk]; simp [prts])
      have nc : ∀ p, ¬ covers tr n p := fun p => ncov (by omega) (by omega) (by omega)
      exact field_ok hf hr h0' hW hI hz hC p0.1 p0.2 (nc _) rfl rfl rfl
    · rename_i hk
      have p0 := P 0 (by rw [hk]; simp [prts])
      have p1 := P 1 (by rw [hk]; simp [prts])
      have nc : ¬ covers tr n (tr 10 n) := fun h => by
        rcases h with h | h | h
        · omega
        · exact hT.2.2 n hv hk h.2
        · omega
      exact let_ok hf hfs hr h0' hW hI hz hC p0.1 p1.1 p0.2 p1.2 nc rfl
    · rename_i hk
      have p0 := P 0 (by rw [hk]; simp [prts])
      have p1 := P 1 (by rw [hk]; simp [prts])
      exact rec_ok hf hfs hr h0' hW hI hz hC p0.1 p1.1 p0.2 p1.2 rfl rfl rfl
    · rename_i hk
      have p0 := P 0 (by rw [hk]; simp [prts])
      have p1 := P 1 (by rw [hk]; simp [prts])
      have p2 := P 2 (by rw [hk]; simp [prts])
      have nc : ∀ p, ¬ covers tr n p := fun p => ncov (by omega) (by omega) (by omega)
      exact pick_ok hf hr h0' hW hI hz hC p0.1 p1.1 p2.1 p0.2 p1.2 p2.2 (nc _) (nc _) (nc _) rfl rfl rfl rfl rfl rfl
    · rename_i m n0 n1 n2 n3 n4 n5 n6 n7 n8 n9
      have b0 : tr 0 n ≠ 0 := fun h => n0 h
      have b1 : tr 0 n ≠ 1 := fun h => n1 h
      have b2 : tr 0 n ≠ 2 := fun h => n2 h
      have b3 : tr 0 n ≠ 3 := fun h => n3 h
      have b4 : tr 0 n ≠ 6 := fun h => n6 h
      have hm : prts (tr 0 n) (tr 2 n) = 2 := by
        unfold prts
        rw [if_neg (show ¬ tr 0 n < 3 by omega), if_neg (show ¬ tr 0 n = 5 by omega), if_neg (show ¬ (tr 0 n = 3 ∨ tr 0 n = 6) by omega), if_neg (show ¬ tr 0 n = 9 by omega)]
      have p0 := P 0 (by omega)
      have p1 := P 1 (by omega)
      have nc : ∀ p, ¬ covers tr n p := fun p => ncov (by omega) (by omega) (by omega)
      exact wholes_ok hf hr h0' hW hI hz hC p0.1 p1.1 p0.2 p1.2 (nc _) (nc _) (by split <;> omega) rfl rfl rfl
