/-! ===== the tree's small methods in the second program ===== -/
def TRf (tr : aM) (N : Nat) (F : Nat → Nat → Int32) : Prop := ∀ n, n < N → tr 3 n = 0 → F 6 n = -9
def mPts (x : Int32) : Int32 := if x = 3 ∨ x = 6 then 1 else if x = 9 then 3 else if x = 4 ∨ x = 7 ∨ x = 8 ∨ x = 10 ∨ x = 11 then 2 else 0
def mNam (x : Int32) : Int32 := if x = 2 then 1 else if x = 3 then 1 else if x = 6 then 1 else if x = 7 then 1 else if x = 8 then 1 else 0
def Fre (N : Nat) (F : Nat → Nat → Int32) (x : Int32) : Prop := ∃ j, j < N ∧ x = nI j ∧ F 6 j = -9
/-- of is y or above it -/
def Wi (tr : aM) (y q : Nat) : Prop := ∃ k, anc tr k y q = true
theorem Wi.rf {tr : aM} {y : Nat} : Wi tr y y := ⟨0, by simp [anc]⟩
theorem Wi.up {tr : aM} {y q : Nat} (h3 : tr 3 y ≠ 0) (hne : y ≠ q) : Wi tr y q ↔ Wi tr (tr 3 y - 1) q := by
  constructor
  · rintro ⟨k, h⟩
    cases k with
    | zero =>
      have : y = q := by simpa [anc] using h
      exact absurd this hne
    | succ k =>
      simp only [anc, Bool.or_eq_true, Bool.and_eq_true, decide_eq_true_eq] at h
      rcases h with h | h
      · exact absurd h hne
      · exact ⟨k, h.2⟩
  · rintro ⟨k, h⟩
    refine ⟨k + 1, ?_⟩
    simp only [anc, Bool.or_eq_true, Bool.and_eq_true, decide_eq_true_eq]
    exact Or.inr ⟨h3, h⟩
theorem Wi.top {tr : aM} {y q : Nat} (h3 : tr 3 y = 0) (hne : y ≠ q) : ¬ Wi tr y q := by
  rintro ⟨k, h⟩
  cases k with
  | zero =>
    have : y = q := by simpa [anc] using h
    exact hne this
  | succ k =>
    simp only [anc, Bool.or_eq_true, Bool.and_eq_true, decide_eq_true_eq] at h
    rcases h with h | h
    · exact hne h
    · exact h.1 h3
theorem in_w {x y : Int32} {N : Nat} (hN : N ≤ 120) (hy : y = nI N - 1) : (0 ≤ x ∧ x ≤ y) ↔ ∃ j, j < N ∧ x = nI j := by
  rw [hy]
  exact in_nat hN
def mTold (F : Nat → Nat → Int32) (j w : Nat) : Int32 := if w = 0 then F 1 j else if w = 1 then F 2 j else if w = 2 then F 3 j else if w = 3 then F 6 j else if w < 10 then F 4 (6 * j + w - 4) else F 5 (6 * j + w - 10)
