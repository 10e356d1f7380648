theorem isL_in (v : Int32) : p_isL v = p_in v 0 25 := by
  unfold p_isL p_in
  have h : (26 ≤ v) = (25 < v) := propext (by
    rw [i_le, i_lt]
    have e0 : (26 : Int32).toInt = 26 := rfl
    have e1 : (25 : Int32).toInt = 25 := rfl
    omega)
  simp only [h]
theorem fit1 (v : Int32) : (if v = 0 then (1 : Int32) else if ¬ v = 1 then 0 else 1) = p_in v 0 1 := by
  unfold p_in
  have e0 : (0 : Int32).toInt = 0 := rfl
  have e1 : (1 : Int32).toInt = 1 := rfl
  by_cases h0 : v = 0
  · subst h0
    decide
  · by_cases h1 : v = 1
    · subst h1
      decide
    · rw [if_neg h0, if_pos h1]
      by_cases h2 : v < 0
      · rw [if_pos h2]
      · rw [if_neg h2, if_pos]
        rw [i_eq] at h0 h1
        rw [i_lt] at h2 ⊢
        omega
theorem node_end (k : Int32) (hc : p_canB (p_parts k) = 0 ↔ ¬ m_parts k ≤ 0) : (if ¬ p_canB (p_parts k) = 0 then (0 : Int32) else -1) = m_end k := by
  unfold m_end
  by_cases hm : m_parts k ≤ 0
  · rw [if_pos hm, if_pos (fun h => (hc.mp h) hm)]
  · rw [if_neg hm, if_neg (not_not_intro (hc.mpr hm))]
theorem node_of (k v : Int32) (hK : p_isK k = 1) (hI : p_in k 0 11 = 1) (h1 : ¬ k = 1) (hc : p_canB (p_parts k) = 0 ↔ ¬ m_parts k ≤ 0) : p_node k v = m_node k v := by
  have h10 : ¬ (1 : Int32) = 0 := by decide
  unfold p_node m_node
  simp only [hK, hI, if_neg h10, if_pos h1]
  unfold p_fit
  rw [if_pos h1, node_end k hc]
  by_cases hl : p_hasL k = 0
  · rw [if_pos hl, if_pos hl, if_pos (by decide)]
  · rw [if_neg hl, if_neg hl, isL_in]
    by_cases hv : p_in v 0 25 = 0
    · rw [if_pos hv, if_neg (not_not_intro rfl), if_neg (not_not_intro hv)]
    · rw [if_neg hv, if_pos (by decide), if_pos hv]
theorem node_1 (v : Int32) : p_node 1 v = m_node 1 v := by
  have h10 : ¬ (1 : Int32) = 0 := by decide
  have h11 : ¬ ¬ (1 : Int32) = 1 := by decide
  have hK : p_isK 1 = 1 := by decide
  have hI : p_in 1 0 11 = 1 := by decide
  unfold p_node m_node
  simp only [hK, hI, if_neg h10]
  rw [if_neg (not_not_intro trivial : ¬ ¬ True)]
  unfold p_fit
  rw [if_neg h11, fit1, node_end 1 (by decide)]
  by_cases hv : p_in v 0 1 = 0
  · rw [if_pos hv, if_neg (not_not_intro hv)]
  · rw [if_neg hv, if_pos hv, show p_hasL 1 = 0 by decide, if_pos rfl]
theorem p_node_eq (k v : Int32) : p_node k v = m_node k v := by
  have e0 : (0 : Int32).toInt = 0 := rfl
  have e1 : (11 : Int32).toInt = 11 := rfl
  have e2 : (12 : Int32).toInt = 12 := rfl
  by_cases h0 : k < 0
  · have a : p_isK k = 0 := by unfold p_isK; rw [if_pos h0]
    have b : p_in k 0 11 = 0 := by unfold p_in; rw [if_pos h0]
    unfold p_node m_node
    rw [if_pos a, if_pos b]
  · by_cases h1 : 12 ≤ k
    · have a : p_isK k = 0 := by unfold p_isK; rw [if_neg h0, if_pos h1]
      have b : p_in k 0 11 = 0 := by
        unfold p_in
        rw [if_neg h0, if_pos]
        rw [i_le] at h1
        rw [i_lt]
        omega
      unfold p_node m_node
      rw [if_pos a, if_pos b]
    · obtain ⟨j, hj, rfl⟩ : ∃ j : Nat, j < 12 ∧ k = nI j := by
        obtain ⟨j, hj, e⟩ := nI_of h0
        refine ⟨j, ?_, e⟩
        rw [i_le, e, nI_toInt hj] at h1
        omega
      rcases (show j = 0 ∨ j = 1 ∨ j = 2 ∨ j = 3 ∨ j = 4 ∨ j = 5 ∨ j = 6 ∨ j = 7 ∨ j = 8 ∨ j = 9 ∨ j = 10 ∨ j = 11 by omega) with rfl | rfl | rfl | rfl | rfl | rfl | rfl | rfl | rfl | rfl | rfl | rfl
      · exact node_of _ v (by decide) (by decide) (by decide) (by decide)
      · exact node_1 v
      all_goals exact node_of _ v (by decide) (by decide) (by decide) (by decide)
theorem len6 {L : Nat} (hL : L ≤ 6) (h : ¬ Int32.ofNat L - 6 < 0) : L = 6 := by
  rcases (show L = 0 ∨ L = 1 ∨ L = 2 ∨ L = 3 ∨ L = 4 ∨ L = 5 ∨ L = 6 by omega) with rfl | rfl | rfl | rfl | rfl | rfl | rfl
  all_goals first | rfl | exact absurd (by decide) h
/-- the static table of the parts, as the start has it -/
theorem zt_start {s : State} {args : Array Value} (hl : (Cond.laysStatic "PolarTypes$Tree" "PARTS_OF_KIND" "[I").before args s = true) (hi : (Cond.initialized "PolarTypes$Tree").before args s = true) (hg : (Jvm.Cond.and given_1 narrow_1).before args s = true) : ∃ tk : Nat, ZT tk (fun q : Nat => s.heap.size ≤ q) s s.heap := by
  have hs := flat_of_before _ hg
  have hA : ∀ a : Nat, a < s.heap.size → ¬ (fun q : Nat => s.heap.size ≤ q) a := fun a h => Nat.not_le.mpr h
  obtain ⟨t, ht, hT⟩ := va_Tof (tm := .static "PolarTypes$Tree" "PARTS_OF_KIND" "[I") (ty := .int) (N := 12) (f := fun j => .int (pkI j)) (A := fun q : Nat => s.heap.size ≤ q) (by decide) (hs (.arrayOf (.static "PolarTypes$Tree" "PARTS_OF_KIND" "[I") .int) (by decide +kernel)) (va_eqt (hs (.eq (.length (.static "PolarTypes$Tree" "PARTS_OF_KIND" "[I")) (.int 12)) (by decide +kernel))) (fun j hj => by
    rcases (show j = 0 ∨ j = 1 ∨ j = 2 ∨ j = 3 ∨ j = 4 ∨ j = 5 ∨ j = 6 ∨ j = 7 ∨ j = 8 ∨ j = 9 ∨ j = 10 ∨ j = 11 by omega) with rfl | rfl | rfl | rfl | rfl | rfl | rfl | rfl | rfl | rfl | rfl | rfl
    · exact va_eqt (hs (.eq (.elem (.static "PolarTypes$Tree" "PARTS_OF_KIND" "[I") (.int 0)) (.int 0)) (by decide +kernel))
    · exact va_eqt (hs (.eq (.elem (.static "PolarTypes$Tree" "PARTS_OF_KIND" "[I") (.int 1)) (.int 0)) (by decide +kernel))
    · exact va_eqt (hs (.eq (.elem (.static "PolarTypes$Tree" "PARTS_OF_KIND" "[I") (.int 2)) (.int 0)) (by decide +kernel))
    · exact va_eqt (hs (.eq (.elem (.static "PolarTypes$Tree" "PARTS_OF_KIND" "[I") (.int 3)) (.int 1)) (by decide +kernel))
    · exact va_eqt (hs (.eq (.elem (.static "PolarTypes$Tree" "PARTS_OF_KIND" "[I") (.int 4)) (.int 2)) (by decide +kernel))
    · exact va_eqt (hs (.eq (.elem (.static "PolarTypes$Tree" "PARTS_OF_KIND" "[I") (.int 5)) (.int 0)) (by decide +kernel))
    · exact va_eqt (hs (.eq (.elem (.static "PolarTypes$Tree" "PARTS_OF_KIND" "[I") (.int 6)) (.int 1)) (by decide +kernel))
    · exact va_eqt (hs (.eq (.elem (.static "PolarTypes$Tree" "PARTS_OF_KIND" "[I") (.int 7)) (.int 2)) (by decide +kernel))
    · exact va_eqt (hs (.eq (.elem (.static "PolarTypes$Tree" "PARTS_OF_KIND" "[I") (.int 8)) (.int 2)) (by decide +kernel))
    · exact va_eqt (hs (.eq (.elem (.static "PolarTypes$Tree" "PARTS_OF_KIND" "[I") (.int 9)) (.int 3)) (by decide +kernel))
    · exact va_eqt (hs (.eq (.elem (.static "PolarTypes$Tree" "PARTS_OF_KIND" "[I") (.int 10)) (.int 2)) (by decide +kernel))
    · exact va_eqt (hs (.eq (.elem (.static "PolarTypes$Tree" "PARTS_OF_KIND" "[I") (.int 11)) (.int 2)) (by decide +kernel))) hA
  exact ⟨t, va_Zref hl hi ht hA, hT⟩

