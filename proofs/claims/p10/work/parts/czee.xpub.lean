theorem rholds_of {n : Int32} {k : Nat} (h : ¬ rholds k n = 0) (hk : k < 2 ^ 31) : ∃ j, j < k ∧ n = nI j := by
  unfold rholds at h
  by_cases h0 : n < 0
  · rw [if_pos h0] at h
    exact absurd rfl h
  · rw [if_neg h0] at h
    by_cases h1 : nI k ≤ n
    · rw [if_pos h1] at h
      exact absurd rfl h
    · exact kI_in h0 h1 hk
theorem rholds_no {n : Int32} {k j : Nat} (h : rholds k n = 0) (hk : k < 2 ^ 31) (hj : j < k) (e : n = nI j) : False := by
  unfold rholds at h
  rw [e, if_neg (nI_n0 (by omega)), if_neg (fun z => by
    have := (nI_leI (a := k) (b := j) (by omega) (by omega)).mp z
    omega)] at h
  exact absurd h (by decide)

theorem KT.vr {S : cS} {z : aS} (h : KT S z) (x : Int32) : (rget (kF S 14) (kK S 14) x = -9 ∧ ¬ ∃ j, j < nV z ∧ x = nI j) ∨ ∃ j, j < nV z ∧ x = nI j ∧ rget (kF S 14) (kK S 14) x = nI (z.1 6 j) ∧ z.1 6 j < nT z ∧ srt z (z.1 6 j) = 3 ∧ one z (z.1 6 j) = j := by
  obtain ⟨⟨a1, a2, a3, a4, a5, a6, a6b, a7, a8, a9, a10⟩, -, -, -, ⟨-, f⟩, -⟩ := h
  rw [a5]
  by_cases e : ∃ j, j < nV z ∧ x = nI j
  · obtain ⟨j, hj, rfl⟩ := e
    obtain ⟨f1, f2, f3, f4⟩ := f j hj
    exact Or.inr ⟨j, hj, rfl, (rget_at hj (by omega)).trans f1, f2, f3, f4⟩
  · refine Or.inl ⟨?_, e⟩
    unfold rget
    by_cases h0 : x < 0
    · rw [if_pos h0]
    · rw [if_neg h0]
      by_cases h1 : nI (nV z) ≤ x
      · rw [if_pos h1]
      · exact absurd (kI_in h0 h1 (by omega)) e

