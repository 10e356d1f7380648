/-! ===== the tree's small methods in the second program ===== -/
def TRf (tr : aM) (N : Nat) (F : Nat → Nat → Int32) : Prop := ∀ n, n < N → tr 3 n = 0 → F 6 n = -9
def mPts (x : Int32) : Int32 := if x = 3 ∨ x = 6 then 1 else if x = 9 then 3 else if x = 4 ∨ x = 7 ∨ x = 8 ∨ x = 10 ∨ x = 11 then 2 else 0
def mNam (x : Int32) : Int32 := if x = 2 then 1 else if x = 3 then 1 else if x = 6 then 1 else if x = 7 then 1 else if x = 8 then 1 else 0
def Fre (N : Nat) (F : Nat → Nat → Int32) (x : Int32) : Prop := ∃ j, j < N ∧ x = nI j ∧ F 6 j = -9
/-- of is y or above it -/
def Wi (tr : aM) (y q : Nat) : Prop := ∃ k, anc tr k y q = true
theorem Wi.rf {tr : aM} {y : Nat} : Wi tr y y := ⟨0, by simp [anc]⟩
theorem Wi.up {tr : aM} {y q : Nat} (h3 : tr 3 y ≠ 0) (hne : y ≠ q) : Wi tr y q ↔ Wi tr (tr 3 y - 1) q := by
  constructor
  · rintro ⟨k, h⟩
    cases k with
    | zero =>
      have : y = q := by simpa [anc] using h
      exact absurd this hne
    | succ k =>
      simp only [anc, Bool.or_eq_true, Bool.and_eq_true, decide_eq_true_eq] at h
      rcases h with h | h
      · exact absurd h hne
      · exact ⟨k, h.2⟩
  · rintro ⟨k, h⟩
    refine ⟨k + 1, ?_⟩
    simp only [anc, Bool.or_eq_true, Bool.and_eq_true, decide_eq_true_eq]
    exact Or.inr ⟨h3, h⟩
theorem Wi.top {tr : aM} {y q : Nat} (h3 : tr 3 y = 0) (hne : y ≠ q) : ¬ Wi tr y q := by
  rintro ⟨k, h⟩
  cases k with
  | zero =>
    have : y = q := by simpa [anc] using h
    exact hne this
  | succ k =>
    simp only [anc, Bool.or_eq_true, Bool.and_eq_true, decide_eq_true_eq] at h
    rcases h with h | h
    · exact hne h
    · exact h.1 h3
theorem in_w {x y : Int32} {N : Nat} (hN : N ≤ 120) (hy : y = nI N - 1) : (0 ≤ x ∧ x ≤ y) ↔ ∃ j, j < N ∧ x = nI j := by
  rw [hy]
  exact in_nat hN
def mTold (F : Nat → Nat → Int32) (j w : Nat) : Int32 := if w = 0 then F 1 j else if w = 1 then F 2 j else if w = 2 then F 3 j else if w = 3 then F 6 j else if w < 10 then F 4 (6 * j + w - 4) else F 5 (6 * j + w - 10)
theorem in_nat2 {x : Int32} {N : Nat} (hN : N ≤ 1000) : (0 ≤ x ∧ x ≤ nI N - 1) ↔ ∃ j, j < N ∧ x = nI j := by
  have e : (nI N - nI 1).toInt = (N : Int) - 1 := pk_sub_toInt (by omega) (by omega)
  have e2 : (nI N - 1 : Int32) = nI N - nI 1 := rfl
  rw [i_le, i_le, e2, e]
  have e0 : (0 : Int32).toInt = 0 := rfl
  rw [e0]
  constructor
  · rintro ⟨h1, h2⟩
    obtain ⟨j, hj, ej⟩ := nI_of (x := x) (by rw [i_lt, e0]; omega)
    have := nI_toInt hj
    rw [← ej] at this
    exact ⟨j, by omega, ej⟩
  · rintro ⟨j, hj, rfl⟩
    rw [nI_toInt (by omega)]
    omega
theorem cP_s {F : Nat → Nat → Int32} {i : Nat} (h : F 6 i = -9) : nI ((List.range i).countP (fun j => decide (F 6 j = -9))) + 1 = nI ((List.range (i + 1)).countP (fun j => decide (F 6 j = -9))) := by
  rw [List.range_succ, List.countP_append, nI_1]
  simp [h]
theorem cP_n {F : Nat → Nat → Int32} {i : Nat} (h : ¬ F 6 i = -9) : nI ((List.range i).countP (fun j => decide (F 6 j = -9))) + 0 = nI ((List.range (i + 1)).countP (fun j => decide (F 6 j = -9))) := by
  rw [List.range_succ, List.countP_append, Int32.add_zero]
  simp [h]
