/-! ===== the two programs' trees, alike ===== -/
theorem rset_at {f : Nat → Int32} {k j : Nat} {x : Int32} (hj : j < k) (hk : k < 2 ^ 31) : rset f k (nI j) x = upd f j x := by
  unfold rset
  rw [if_neg (nI_n0 (by omega)), if_neg (by rw [nI_leI (by omega) (by omega)]; omega), nI_clamp (by omega)]
theorem in_or {k : Nat} {i : Int32} (hk : k < 2 ^ 31) : (∃ j, j < k ∧ i = nI j) ∨ (i < 0 ∨ (¬ i < 0 ∧ nI k ≤ i)) := by
  by_cases h0 : i < 0
  · exact Or.inr (Or.inl h0)
  · by_cases h1 : nI k ≤ i
    · exact Or.inr (Or.inr ⟨h0, h1⟩)
    · obtain ⟨j, hj, e⟩ := nI_of h0
      rw [e, nI_leI hk hj] at h1
      exact Or.inl ⟨j, by omega, e⟩
theorem rget_no {f : Nat → Int32} {k : Nat} {i : Int32} (hk : k < 2 ^ 31) (h : ¬ ∃ j, j < k ∧ i = nI j) : rget f k i = -9 := by
  unfold rget
  rcases (in_or (i := i) hk).resolve_left h with h0 | ⟨h0, h1⟩
  · rw [if_pos h0]
  · rw [if_neg h0, if_pos h1]
theorem rget_cg {f g : Nat → Int32} {k : Nat} (hk : k < 2 ^ 31) (h : ∀ j, j < k → f j = g j) (i : Int32) : rget f k i = rget g k i := by
  by_cases h1 : ∃ j, j < k ∧ i = nI j
  · obtain ⟨j, hj, rfl⟩ := h1
    rw [rget_at hj hk, rget_at hj hk, h j hj]
  · rw [rget_no hk h1, rget_no hk h1]
theorem holds_iff {k : Nat} {i : Int32} (hk : k < 2 ^ 31) : (¬ rholds k i = 0) ↔ ∃ j, j < k ∧ i = nI j := by
  unfold rholds
  constructor
  · intro h
    rcases in_or (i := i) hk with h1 | h0 | ⟨h0, h1⟩
    · exact h1
    · rw [if_pos h0] at h
      exact absurd rfl h
    · rw [if_neg h0, if_pos h1] at h
      exact absurd rfl h
  · rintro ⟨j, hj, rfl⟩
    rw [if_neg (nI_n0 (by omega)), if_neg (by rw [nI_leI (by omega) (by omega)]; omega)]
    decide
theorem free_iff {f : Nat → Int32} {N : Nat} {n : Int32} (hN : N ≤ 120) : (¬ t_isFree f N n = 0) ↔ ∃ j, j < N ∧ n = nI j ∧ f j = -9 := by
  unfold t_isFree
  by_cases h : ∃ j, j < N ∧ n = nI j
  · rw [if_neg ((holds_iff (by omega)).mpr h)]
    obtain ⟨j, hj, rfl⟩ := h
    rw [rget_at hj (by omega)]
    by_cases h9 : f j = -9
    · rw [if_neg (not_not_intro h9)]
      exact ⟨fun _ => ⟨j, hj, rfl, h9⟩, fun _ => by decide⟩
    · rw [if_pos h9]
      refine ⟨fun z => absurd rfl z, fun z => ?_⟩
      obtain ⟨j', hj', e, h⟩ := z
      rw [nI_eq (by omega) (by omega)] at e
      rw [e] at h9
      exact absurd h h9
  · rw [if_pos (Classical.byContradiction fun z => h ((holds_iff (by omega)).mp z))]
    refine ⟨fun z => absurd rfl z, fun z => ?_⟩
    obtain ⟨j, hj, e, -⟩ := z
    exact absurd ⟨j, hj, e⟩ h
theorem free_cg {f g : Nat → Int32} {N : Nat} (hN : N ≤ 120) (h : ∀ j, j < N → f j = g j) (n : Int32) : t_isFree f N n = t_isFree g N n := by
  unfold t_isFree
  rw [rget_cg (by omega) h]
theorem can_cg {f g : Nat → Int32} {N : Nat} (hN : N ≤ 120) (h : ∀ j, j < N → f j = g j) (m a b c : Int32) : t_can f N m a b c = t_can g N m a b c := by
  unfold t_can t_can.t_can2 t_can.t_can3
  rw [free_cg hN h, free_cg hN h, free_cg hN h]
theorem can_0 {f : Nat → Int32} {N : Nat} {a b c : Int32} : ¬ t_can f N 0 a b c = 0 := by
  unfold t_can t_can.t_can2 t_can.t_can3
  rw [if_pos (show (0 : Int32) < 1 by decide), if_pos (show (0 : Int32) < 2 by decide), if_pos (show (0 : Int32) < 3 by decide)]
  decide
theorem can_1 {f : Nat → Int32} {N : Nat} {a b c : Int32} : (¬ t_can f N 1 a b c = 0) ↔ ¬ t_isFree f N a = 0 := by
  unfold t_can t_can.t_can2 t_can.t_can3
  rw [if_neg (show ¬ (1 : Int32) < 1 by decide), if_pos (show (1 : Int32) < 2 by decide), if_pos (show (1 : Int32) < 3 by decide)]
  by_cases h : t_isFree f N a = 0
  · rw [if_neg (not_not_intro h)]
    exact ⟨fun z => absurd rfl z, fun z => absurd h z⟩
  · rw [if_pos h]
    exact ⟨fun _ => h, fun _ => by decide⟩
theorem can_2 {f : Nat → Int32} {N : Nat} {a b c : Int32} : (¬ t_can f N 2 a b c = 0) ↔ (¬ t_isFree f N a = 0 ∧ ¬ t_isFree f N b = 0 ∧ b ≠ a) := by
  unfold t_can t_can.t_can2 t_can.t_can3
  rw [if_neg (show ¬ (2 : Int32) < 1 by decide), if_neg (show ¬ (2 : Int32) < 2 by decide), if_pos (show (2 : Int32) < 3 by decide)]
  by_cases h : t_isFree f N a = 0
  · rw [if_neg (not_not_intro h)]
    exact ⟨fun z => absurd rfl z, fun z => absurd h z.1⟩
  · rw [if_pos h]
    by_cases h1 : t_isFree f N b = 0
    · rw [if_pos h1]
      exact ⟨fun z => absurd rfl z, fun z => absurd h1 z.2.1⟩
    · rw [if_neg h1]
      by_cases h2 : b = a
      · rw [if_neg (not_not_intro h2)]
        exact ⟨fun z => absurd rfl z, fun z => absurd h2 z.2.2⟩
      · rw [if_pos h2]
        exact ⟨fun _ => ⟨h, h1, h2⟩, fun _ => by decide⟩
theorem can_3 {f : Nat → Int32} {N : Nat} {a b c : Int32} : (¬ t_can f N 3 a b c = 0) ↔ (¬ t_isFree f N a = 0 ∧ ¬ t_isFree f N b = 0 ∧ b ≠ a ∧ ¬ t_isFree f N c = 0 ∧ c ≠ a ∧ c ≠ b) := by
  unfold t_can t_can.t_can2 t_can.t_can3
  rw [if_neg (show ¬ (3 : Int32) < 1 by decide), if_neg (show ¬ (3 : Int32) < 2 by decide), if_neg (show ¬ (3 : Int32) < 3 by decide)]
  by_cases h : t_isFree f N a = 0
  · rw [if_neg (not_not_intro h)]
    exact ⟨fun z => absurd rfl z, fun z => absurd h z.1⟩
  · rw [if_pos h]
    by_cases h1 : t_isFree f N b = 0
    · rw [if_pos h1]
      exact ⟨fun z => absurd rfl z, fun z => absurd h1 z.2.1⟩
    · rw [if_neg h1]
      by_cases h2 : b = a
      · rw [if_neg (not_not_intro h2)]
        exact ⟨fun z => absurd rfl z, fun z => absurd h2 z.2.2.1⟩
      · rw [if_pos h2]
        by_cases h3 : t_isFree f N c = 0
        · rw [if_pos h3]
          exact ⟨fun z => absurd rfl z, fun z => absurd h3 z.2.2.2.1⟩
        · rw [if_neg h3]
          by_cases h4 : c = a
          · rw [if_pos h4]
            exact ⟨fun z => absurd rfl z, fun z => absurd h4 z.2.2.2.2.1⟩
          · rw [if_neg h4]
            by_cases h5 : c = b
            · rw [if_pos h5]
              exact ⟨fun z => absurd rfl z, fun z => absurd h5 z.2.2.2.2.2⟩
            · rw [if_neg h5]
              exact ⟨fun _ => ⟨h, h1, h2, h3, h4, h5⟩, fun _ => by decide⟩
theorem isL_iff {x : Int32} : (¬ p_isL x = 0) ↔ ∃ w, w < 26 ∧ x = nI w := by
  have h26 : (26 : Int32) = nI 26 := by decide +kernel
  unfold p_isL
  rw [h26]
  constructor
  · intro h
    rcases in_or (k := 26) (i := x) (by decide) with h1 | h0 | ⟨h0, h1⟩
    · exact h1
    · rw [if_pos h0] at h
      exact absurd rfl h
    · rw [if_neg h0, if_pos h1] at h
      exact absurd rfl h
  · rintro ⟨j, hj, rfl⟩
    rw [if_neg (nI_n0 (by omega)), if_neg (by rw [nI_leI (by omega) (by omega)]; omega)]
    decide
theorem fit_1 {v : Int32} : (¬ p_fit 1 v = 0) ↔ ∃ w, w < 2 ∧ v = nI w := by
  unfold p_fit
  rw [if_neg (by decide)]
  constructor
  · intro h
    by_cases h0 : v = 0
    · exact ⟨0, by decide, h0⟩
    · by_cases h1 : v = 1
      · exact ⟨1, by decide, h1⟩
      · rw [if_neg h0, if_pos h1] at h
        exact absurd rfl h
  · rintro ⟨w, hw, rfl⟩
    rcases (show w = 0 ∨ w = 1 by omega) with rfl | rfl <;> decide
theorem fit_L {k v : Int32} (h1 : ¬ k = 1) (hL : ¬ p_hasL k = 0) : (¬ p_fit k v = 0) ↔ ∃ w, w < 26 ∧ v = nI w := by
  unfold p_fit
  rw [if_pos h1, if_neg hL]
  by_cases h : p_isL v = 0
  · rw [if_pos h]
    exact ⟨fun z => absurd rfl z, fun z => absurd h (isL_iff.mpr z)⟩
  · rw [if_neg h]
    exact ⟨fun _ => isL_iff.mp h, fun _ => by decide⟩
theorem fit_0 {k v : Int32} (h1 : ¬ k = 1) (hL : p_hasL k = 0) : ¬ p_fit k v = 0 := by
  unfold p_fit
  rw [if_pos h1, if_pos hL]
  decide
/-- what node asks of its numbers -/
def MOK (f : Nat → Int32) (N : Nat) (kd vv na nb nc : Int32) : Prop := ¬ p_isK kd = 0 ∧ ¬ p_fit kd vv = 0 ∧ ¬ t_can f N (p_parts kd) na nb nc = 0
theorem mok_cg {f g : Nat → Int32} {N : Nat} (hN : N ≤ 120) (h : ∀ j, j < N → f j = g j) {kd vv na nb nc : Int32} : MOK f N kd vv na nb nc ↔ MOK g N kd vv na nb nc := by
  unfold MOK
  rw [can_cg hN h]
theorem mok_0 {F : Nat → Nat → Int32} {N : Nat} {v9 a1 a2 a3 : Int32} (hN : N ≤ 120) : MOK (F 6) N 0 v9 a1 a2 a3 ↔ (True ∧ (True)) := by
  unfold MOK
  rw [show p_parts 0 = 0 by decide]
  exact ⟨fun h => ⟨trivial, trivial⟩, fun h => ⟨by decide, fit_0 (by decide) (by decide), can_0⟩⟩
theorem mok_1 {F : Nat → Nat → Int32} {N : Nat} {v9 a1 a2 a3 : Int32} (hN : N ≤ 120) : MOK (F 6) N 1 v9 a1 a2 a3 ↔ ((∃ w, w < 2 ∧ v9 = nI w) ∧ (True)) := by
  unfold MOK
  rw [show p_parts 1 = 0 by decide, fit_1]
  exact ⟨fun h => ⟨h.2.1, trivial⟩, fun h => ⟨by decide, h.1, can_0⟩⟩
theorem mok_2 {F : Nat → Nat → Int32} {N : Nat} {v9 a1 a2 a3 : Int32} (hN : N ≤ 120) : MOK (F 6) N 2 v9 a1 a2 a3 ↔ ((∃ w, w < 26 ∧ v9 = nI w) ∧ (True)) := by
  unfold MOK
  rw [show p_parts 2 = 0 by decide, fit_L (by decide) (by decide)]
  exact ⟨fun h => ⟨h.2.1, trivial⟩, fun h => ⟨by decide, h.1, can_0⟩⟩
theorem mok_3 {F : Nat → Nat → Int32} {N : Nat} {v9 a1 a2 a3 : Int32} (hN : N ≤ 120) : MOK (F 6) N 3 v9 a1 a2 a3 ↔ ((∃ w, w < 26 ∧ v9 = nI w) ∧ (Fre N F a1)) := by
  unfold MOK
  rw [show p_parts 3 = 1 by decide, fit_L (by decide) (by decide), can_1, free_iff hN]
  exact ⟨fun h => ⟨h.2.1, h.2.2⟩, fun h => ⟨by decide, h.1, h.2⟩⟩
theorem mok_4 {F : Nat → Nat → Int32} {N : Nat} {v9 a1 a2 a3 : Int32} (hN : N ≤ 120) : MOK (F 6) N 4 v9 a1 a2 a3 ↔ (True ∧ (Fre N F a1 ∧ Fre N F a2 ∧ a2 ≠ a1)) := by
  unfold MOK
  rw [show p_parts 4 = 2 by decide, can_2]
  simp only [free_iff hN]
  exact ⟨fun h => ⟨trivial, h.2.2⟩, fun h => ⟨by decide, fit_0 (by decide) (by decide), h.2⟩⟩
theorem mok_5 {F : Nat → Nat → Int32} {N : Nat} {v9 a1 a2 a3 : Int32} (hN : N ≤ 120) : MOK (F 6) N 5 v9 a1 a2 a3 ↔ (True ∧ (True)) := by
  unfold MOK
  rw [show p_parts 5 = 0 by decide]
  exact ⟨fun h => ⟨trivial, trivial⟩, fun h => ⟨by decide, fit_0 (by decide) (by decide), can_0⟩⟩
theorem mok_6 {F : Nat → Nat → Int32} {N : Nat} {v9 a1 a2 a3 : Int32} (hN : N ≤ 120) : MOK (F 6) N 6 v9 a1 a2 a3 ↔ ((∃ w, w < 26 ∧ v9 = nI w) ∧ (Fre N F a1)) := by
  unfold MOK
  rw [show p_parts 6 = 1 by decide, fit_L (by decide) (by decide), can_1, free_iff hN]
  exact ⟨fun h => ⟨h.2.1, h.2.2⟩, fun h => ⟨by decide, h.1, h.2⟩⟩
theorem mok_7 {F : Nat → Nat → Int32} {N : Nat} {v9 a1 a2 a3 : Int32} (hN : N ≤ 120) : MOK (F 6) N 7 v9 a1 a2 a3 ↔ ((∃ w, w < 26 ∧ v9 = nI w) ∧ (Fre N F a1 ∧ Fre N F a2 ∧ a2 ≠ a1)) := by
  unfold MOK
  rw [show p_parts 7 = 2 by decide, fit_L (by decide) (by decide), can_2]
  simp only [free_iff hN]
  exact ⟨fun h => ⟨h.2.1, h.2.2⟩, fun h => ⟨by decide, h.1, h.2⟩⟩
theorem mok_8 {F : Nat → Nat → Int32} {N : Nat} {v9 a1 a2 a3 : Int32} (hN : N ≤ 120) : MOK (F 6) N 8 v9 a1 a2 a3 ↔ ((∃ w, w < 26 ∧ v9 = nI w) ∧ (Fre N F a1 ∧ Fre N F a2 ∧ a2 ≠ a1)) := by
  unfold MOK
  rw [show p_parts 8 = 2 by decide, fit_L (by decide) (by decide), can_2]
  simp only [free_iff hN]
  exact ⟨fun h => ⟨h.2.1, h.2.2⟩, fun h => ⟨by decide, h.1, h.2⟩⟩
theorem mok_9 {F : Nat → Nat → Int32} {N : Nat} {v9 a1 a2 a3 : Int32} (hN : N ≤ 120) : MOK (F 6) N 9 v9 a1 a2 a3 ↔ (True ∧ (Fre N F a1 ∧ Fre N F a2 ∧ a2 ≠ a1 ∧ Fre N F a3 ∧ a3 ≠ a1 ∧ a3 ≠ a2)) := by
  unfold MOK
  rw [show p_parts 9 = 3 by decide, can_3]
  simp only [free_iff hN]
  exact ⟨fun h => ⟨trivial, h.2.2⟩, fun h => ⟨by decide, fit_0 (by decide) (by decide), h.2⟩⟩
theorem mok_10 {F : Nat → Nat → Int32} {N : Nat} {v9 a1 a2 a3 : Int32} (hN : N ≤ 120) : MOK (F 6) N 10 v9 a1 a2 a3 ↔ (True ∧ (Fre N F a1 ∧ Fre N F a2 ∧ a2 ≠ a1)) := by
  unfold MOK
  rw [show p_parts 10 = 2 by decide, can_2]
  simp only [free_iff hN]
  exact ⟨fun h => ⟨trivial, h.2.2⟩, fun h => ⟨by decide, fit_0 (by decide) (by decide), h.2⟩⟩
theorem mok_11 {F : Nat → Nat → Int32} {N : Nat} {v9 a1 a2 a3 : Int32} (hN : N ≤ 120) : MOK (F 6) N 11 v9 a1 a2 a3 ↔ (True ∧ (Fre N F a1 ∧ Fre N F a2 ∧ a2 ≠ a1)) := by
  unfold MOK
  rw [show p_parts 11 = 2 by decide, can_2]
  simp only [free_iff hN]
  exact ⟨fun h => ⟨trivial, h.2.2⟩, fun h => ⟨by decide, fit_0 (by decide) (by decide), h.2⟩⟩
theorem isK_lt {x : Int32} (h : ¬ p_isK x = 0) : ∃ j, j < 12 ∧ x = nI j := by
  have h12 : (12 : Int32) = nI 12 := by decide +kernel
  unfold p_isK at h
  rw [h12] at h
  rcases in_or (k := 12) (i := x) (by decide) with h1 | h0 | ⟨h0, h1⟩
  · exact h1
  · rw [if_pos h0] at h
    exact absurd rfl h
  · rw [if_neg h0, if_pos h1] at h
    exact absurd rfl h
/-- a node more, in the second program's rows -/
def NodeF (F F' : Nat → Nat → Int32) (N : Nat) (k vm : Int32) (qs : List Nat) : Prop := F' 1 = upd (F 1) N k ∧ F' 2 = upd (F 2) N vm ∧ F' 3 = upd (F 3) N (nI qs.length) ∧ (∀ j, j ≤ N → F' 6 j = if j ∈ qs then nI N else if j = N then -9 else F 6 j) ∧ (∀ j, j < 6 * N → F' 4 j = F 4 j ∧ F' 5 j = F 5 j) ∧ (∀ i, i < 6 → F' 4 (6 * N + i) = (if i < qs.length then nI (qs.getD i 0) else -9) ∧ F' 5 (6 * N + i) = -9) ∧ ∀ k, 7 ≤ k → F' k = F k
def chB (F : Nat → Nat → Int32) (N : Nat) (k vm m p0 p1 p2 : Int32) : Nat → Nat → Int32 := fput (fput (fput (fput (fput (fput (fput (fput (fput (fput (fput (fput (fput (fput (fput (fput F 1 N k) 2 N vm) 3 N m) 6 N ((-9))) 4 (6 * N + 0) p0) 5 (6 * N + 0) ((-9))) 4 (6 * N + 1) p1) 5 (6 * N + 1) ((-9))) 4 (6 * N + 2) p2) 5 (6 * N + 2) ((-9))) 4 (6 * N + 3) ((-9))) 5 (6 * N + 3) ((-9))) 4 (6 * N + 4) ((-9))) 5 (6 * N + 4) ((-9))) 4 (6 * N + 5) ((-9))) 5 (6 * N + 5) ((-9))
section CHB
variable {F : Nat → Nat → Int32} {N : Nat} {k vm m p0 p1 p2 : Int32}
theorem chB_1 : chB F N k vm m p0 p1 p2 1 = upd (F 1) N k := rfl
theorem chB_2 : chB F N k vm m p0 p1 p2 2 = upd (F 2) N vm := rfl
theorem chB_3 : chB F N k vm m p0 p1 p2 3 = upd (F 3) N m := rfl
theorem chB_6 : chB F N k vm m p0 p1 p2 6 = upd (F 6) N (-9) := rfl
theorem chB_4e : chB F N k vm m p0 p1 p2 4 = upd (upd (upd (upd (upd (upd (F 4) (6 * N + 0) p0) (6 * N + 1) p1) (6 * N + 2) p2) (6 * N + 3) (-9)) (6 * N + 4) (-9)) (6 * N + 5) (-9) := rfl
theorem chB_5e : chB F N k vm m p0 p1 p2 5 = upd (upd (upd (upd (upd (upd (F 5) (6 * N + 0) (-9)) (6 * N + 1) (-9)) (6 * N + 2) (-9)) (6 * N + 3) (-9)) (6 * N + 4) (-9)) (6 * N + 5) (-9) := rfl
theorem chB_o {j : Nat} (hj : 7 ≤ j) : chB F N k vm m p0 p1 p2 j = F j := by
  unfold chB fput
  simp only [show ¬ j = 1 by omega, show ¬ j = 2 by omega, show ¬ j = 3 by omega, show ¬ j = 4 by omega, show ¬ j = 5 by omega, show ¬ j = 6 by omega, if_false]
theorem chB_45 {j : Nat} (hj : j < 6 * N) : chB F N k vm m p0 p1 p2 4 j = F 4 j ∧ chB F N k vm m p0 p1 p2 5 j = F 5 j := by
  rw [chB_4e, chB_5e]
  constructor <;> rw [upd_n (by omega), upd_n (by omega), upd_n (by omega), upd_n (by omega), upd_n (by omega), upd_n (by omega)]
theorem chB_5 {i : Nat} (hi : i < 6) : chB F N k vm m p0 p1 p2 5 (6 * N + i) = -9 := by
  rw [chB_5e]
  unfold upd
  repeat' split
  all_goals first | rfl | omega
theorem chB_4 {i : Nat} (hi : i < 6) : chB F N k vm m p0 p1 p2 4 (6 * N + i) = if i = 0 then p0 else if i = 1 then p1 else if i = 2 then p2 else -9 := by
  rw [chB_4e]
  rcases (show i = 0 ∨ i = 1 ∨ i = 2 ∨ i = 3 ∨ i = 4 ∨ i = 5 by omega) with rfl | rfl | rfl | rfl | rfl | rfl
  · rw [upd_n (by omega), upd_n (by omega), upd_n (by omega), upd_n (by omega), upd_n (by omega), upd_s]; rfl
  · rw [upd_n (by omega), upd_n (by omega), upd_n (by omega), upd_n (by omega), upd_s]; rfl
  · rw [upd_n (by omega), upd_n (by omega), upd_n (by omega), upd_s]; rfl
  · rw [upd_n (by omega), upd_n (by omega), upd_s]; rfl
  · rw [upd_n (by omega), upd_s]; rfl
  · rw [upd_s]; rfl
theorem ups_o {F' : Nat → Nat → Int32} {q j : Nat} {x : Int32} (hj : j ≠ 6) : fput F' 6 q x j = F' j := if_neg hj
theorem ups_6 {F' : Nat → Nat → Int32} {q : Nat} {x : Int32} : fput F' 6 q x 6 = upd (F' 6) q x := if_pos rfl
theorem nodeF_0 : NodeF F (chB F N k vm 0 (-9) (-9) (-9)) N k vm [] := by
  refine ⟨chB_1, chB_2, ?_, fun j hj => ?_, fun j hj => ⟨(chB_45 hj).1, (chB_45 hj).2⟩, fun i hi => ⟨?_, chB_5 hi⟩, fun j hj => chB_o hj⟩
  · rw [chB_3]
    rfl
  · rw [chB_6, if_neg (show ¬ j ∈ ([] : List Nat) from List.not_mem_nil)]
    rfl
  · rw [chB_4 hi, if_neg (show ¬ i < ([] : List Nat).length from Nat.not_lt_zero _)]
    rcases (show i = 0 ∨ i = 1 ∨ i = 2 ∨ 3 ≤ i by omega) with rfl | rfl | rfl | h1
    · rfl
    · rfl
    · rfl
    · rw [if_neg (by omega), if_neg (by omega), if_neg (by omega)]
theorem nodeF_1 {qa : Nat} (ha : qa < N) : NodeF F (fput (chB F N k vm 1 (nI qa) (-9) (-9)) 6 qa (nI N)) N k vm [qa] := by
  refine ⟨(ups_o (by decide)).trans (chB_1), (ups_o (by decide)).trans (chB_2), ?_, fun j hj => ?_, fun j hj => ⟨(congrFun (ups_o (by decide)) _).trans ((chB_45 hj).1), (congrFun (ups_o (by decide)) _).trans ((chB_45 hj).2)⟩, fun i hi => ⟨?_, (congrFun (ups_o (by decide)) _).trans (chB_5 hi)⟩, fun j hj => (ups_o (by omega)).trans (chB_o hj)⟩
  · rw [ups_o (by decide), chB_3]
    rfl
  · rw [ups_6, chB_6]
    unfold upd
    simp only [List.mem_cons, List.not_mem_nil, or_false]
  · rw [ups_o (by decide), chB_4 hi]
    rcases (show i = 0 ∨ 1 ≤ i by omega) with rfl | h1
    · rfl
    · have hn : ¬ i < ([qa] : List Nat).length := by simp only [List.length_cons, List.length_nil]; omega
      rw [if_neg hn]
      rcases (show i = 1 ∨ i = 2 ∨ 3 ≤ i by omega) with rfl | rfl | h2
      · rfl
      · rfl
      · rw [if_neg (by omega), if_neg (by omega), if_neg (by omega)]
theorem nodeF_2 {qa qb : Nat} (ha : qa < N) (hb : qb < N) : NodeF F (fput (fput (chB F N k vm 2 (nI qa) (nI qb) (-9)) 6 qa (nI N)) 6 qb (nI N)) N k vm [qa, qb] := by
  refine ⟨(ups_o (by decide)).trans ((ups_o (by decide)).trans (chB_1)), (ups_o (by decide)).trans ((ups_o (by decide)).trans (chB_2)), ?_, fun j hj => ?_, fun j hj => ⟨(congrFun (ups_o (by decide)) _).trans ((congrFun (ups_o (by decide)) _).trans ((chB_45 hj).1)), (congrFun (ups_o (by decide)) _).trans ((congrFun (ups_o (by decide)) _).trans ((chB_45 hj).2))⟩, fun i hi => ⟨?_, (congrFun (ups_o (by decide)) _).trans ((congrFun (ups_o (by decide)) _).trans (chB_5 hi))⟩, fun j hj => (ups_o (by omega)).trans ((ups_o (by omega)).trans (chB_o hj))⟩
  · rw [ups_o (by decide), ups_o (by decide), chB_3]
    rfl
  · rw [ups_6, ups_6, chB_6]
    unfold upd
    simp only [List.mem_cons, List.not_mem_nil, or_false]
    by_cases h1 : j = qb
    · rw [if_pos h1, if_pos (Or.inr h1)]
    · rw [if_neg h1]
      by_cases h2 : j = qa
      · rw [if_pos h2, if_pos (Or.inl h2)]
      · rw [if_neg h2, if_neg (show ¬ (j = qa ∨ j = qb) from fun z => z.elim h2 h1)]
  · rw [ups_o (by decide), ups_o (by decide), chB_4 hi]
    rcases (show i = 0 ∨ i = 1 ∨ 2 ≤ i by omega) with rfl | rfl | h1
    · rfl
    · rfl
    · have hn : ¬ i < ([qa, qb] : List Nat).length := by simp only [List.length_cons, List.length_nil]; omega
      rw [if_neg hn]
      rcases (show i = 2 ∨ 3 ≤ i by omega) with rfl | h2
      · rfl
      · rw [if_neg (by omega), if_neg (by omega), if_neg (by omega)]
theorem nodeF_3 {qa qb qc : Nat} (ha : qa < N) (hb : qb < N) (hc : qc < N) : NodeF F (fput (fput (fput (chB F N k vm 3 (nI qa) (nI qb) (nI qc)) 6 qa (nI N)) 6 qb (nI N)) 6 qc (nI N)) N k vm [qa, qb, qc] := by
  refine ⟨(ups_o (by decide)).trans ((ups_o (by decide)).trans ((ups_o (by decide)).trans (chB_1))), (ups_o (by decide)).trans ((ups_o (by decide)).trans ((ups_o (by decide)).trans (chB_2))), ?_, fun j hj => ?_, fun j hj => ⟨(congrFun (ups_o (by decide)) _).trans ((congrFun (ups_o (by decide)) _).trans ((congrFun (ups_o (by decide)) _).trans ((chB_45 hj).1))), (congrFun (ups_o (by decide)) _).trans ((congrFun (ups_o (by decide)) _).trans ((congrFun (ups_o (by decide)) _).trans ((chB_45 hj).2)))⟩, fun i hi => ⟨?_, (congrFun (ups_o (by decide)) _).trans ((congrFun (ups_o (by decide)) _).trans ((congrFun (ups_o (by decide)) _).trans (chB_5 hi)))⟩, fun j hj => (ups_o (by omega)).trans ((ups_o (by omega)).trans ((ups_o (by omega)).trans (chB_o hj)))⟩
  · rw [ups_o (by decide), ups_o (by decide), ups_o (by decide), chB_3]
    rfl
  · rw [ups_6, ups_6, ups_6, chB_6]
    unfold upd
    simp only [List.mem_cons, List.not_mem_nil, or_false]
    by_cases h1 : j = qc
    · rw [if_pos h1, if_pos (Or.inr (Or.inr h1))]
    · rw [if_neg h1]
      by_cases h2 : j = qb
      · rw [if_pos h2, if_pos (Or.inr (Or.inl h2))]
      · rw [if_neg h2]
        by_cases h3 : j = qa
        · rw [if_pos h3, if_pos (Or.inl h3)]
        · rw [if_neg h3, if_neg (show ¬ (j = qa ∨ j = qb ∨ j = qc) from fun z => z.elim h3 (fun z => z.elim h2 h1))]
  · rw [ups_o (by decide), ups_o (by decide), ups_o (by decide), chB_4 hi]
    rcases (show i = 0 ∨ i = 1 ∨ i = 2 ∨ 3 ≤ i by omega) with rfl | rfl | rfl | h1
    · rfl
    · rfl
    · rfl
    · have hn : ¬ i < ([qa, qb, qc] : List Nat).length := by simp only [List.length_cons, List.length_nil]; omega
      rw [if_neg hn]
      rcases (show 3 ≤ i by omega) with h2
      · rw [if_neg (by omega), if_neg (by omega), if_neg (by omega)]
end CHB
/-! what holds of the second program between two calls -/
theorem MR.kq {s : aS} {ix : Nat → Nat → Nat} {o o' : Nat → Int32} {F F' : Nat → Nat → Int32} {L : List Nat} (h : MR s ix o F) (hK : Kq L o F (o', F')) (hL : ∀ k ∈ [7, 14, 16, 26, 27, 24, 25, 28, 8, 9, 10, 11, 12, 13, 15, 17, 18, 19, 20, 21, 29, 30], k ∉ L) : MR s ix o' F' := by
  have eo : ∀ k, k ∈ [7, 14, 16, 26, 27, 24, 25, 28, 8, 9, 10, 11, 12, 13, 15, 17, 18, 19, 20, 21, 29, 30] → o' k = o k := fun k hk => (hK k (hL k hk)).1
  have eF : ∀ k, k ∈ [7, 14, 16, 26, 27, 24, 25, 28, 8, 9, 10, 11, 12, 13, 15, 17, 18, 19, 20, 21, 29, 30] → F' k = F k := fun k hk => (hK k (hL k hk)).2
  obtain ⟨⟨a1, a2, a3, a4, a5, a6, a7, a8⟩, h2, h3, h4, h5, h6, h7, h8, h9⟩ := h
  refine ⟨⟨(eo 7 (by decide)).trans a1, (eo 14 (by decide)).trans a2, (eo 16 (by decide)).trans a3, (eo 26 (by decide)).trans a4, (eo 27 (by decide)).trans a5, (eo 24 (by decide)).trans a6, (eo 25 (by decide)).trans a7, (eo 28 (by decide)).trans a8⟩, h2, ?_, ?_, ?_, ?_, ?_, h8, ?_⟩
  · unfold RT
    rw [eF 8 (by decide), eF 9 (by decide)]
    exact h3
  · unfold RA
    rw [eF 10 (by decide), eF 11 (by decide)]
    exact h4
  · unfold RR
    rw [eF 10 (by decide), eF 12 (by decide), eF 13 (by decide)]
    exact h5
  · unfold RV
    rw [eF 10 (by decide), eF 15 (by decide)]
    exact h6
  · unfold RB Rw
    rw [eF 17 (by decide), eF 18 (by decide), eF 19 (by decide), eF 20 (by decide), eF 21 (by decide)]
    exact h7
  · unfold RQ
    rw [eF 29 (by decide), eF 30 (by decide)]
    exact h9
def RT0 (o : Nat → Int32) (F : Nat → Nat → Int32) : Prop := (o 14 = 0 ∧ o 22 = 0) ∨ ∃ z ix, MR z ix o F ∧ (o 22 ≠ 0 → ∃ t, o 23 = nI t ∧ t < nT z)
theorem RT0.kq {o o' : Nat → Int32} {F F' : Nat → Nat → Int32} {L : List Nat} (h : RT0 o F) (hK : Kq L o F (o', F')) (hL : ∀ k ∈ [22, 23, 7, 14, 16, 26, 27, 24, 25, 28, 8, 9, 10, 11, 12, 13, 15, 17, 18, 19, 20, 21, 29, 30], k ∉ L) : RT0 o' F' := by
  have e14 : o' 14 = o 14 := (hK 14 (hL 14 (by decide))).1
  have e22 : o' 22 = o 22 := (hK 22 (hL 22 (by decide))).1
  have e23 : o' 23 = o 23 := (hK 23 (hL 23 (by decide))).1
  rcases h with ⟨h1, h2⟩ | ⟨z, ix, h1, h2⟩
  · exact Or.inl ⟨e14.trans h1, e22.trans h2⟩
  · refine Or.inr ⟨z, ix, h1.kq hK (fun k hk => hL k (List.mem_cons_of_mem _ (List.mem_cons_of_mem _ hk))), ?_⟩
    rw [e22, e23]
    exact h2
def RI (tr : aM) (N : Nat) (o : Nat → Int32) (F : Nat → Nat → Int32) : Prop := TRm tr N o F ∧ TRf tr N F ∧ TRw tr N ∧ RT0 o F ∧ WV o F
theorem TRm.kq {tr : aM} {N : Nat} {o o' : Nat → Int32} {F F' : Nat → Nat → Int32} (h : TRm tr N o F) (e0 : o' 0 = o 0) (eF : ∀ k, k < 7 → F' k = F k) : TRm tr N o' F' := by
  unfold TRm at h ⊢
  rw [e0, eF 1 (by decide), eF 2 (by decide), eF 3 (by decide), eF 4 (by decide), eF 5 (by decide), eF 6 (by decide)]
  exact h
theorem TRf.kq {tr : aM} {N : Nat} {F F' : Nat → Nat → Int32} (h : TRf tr N F) (eF : ∀ k, k < 7 → F' k = F k) : TRf tr N F' := by
  unfold TRf at h ⊢
  rw [eF 6 (by decide)]
  exact h
theorem lt7 {L : List Nat} (hL : ∀ k ∈ [0, 1, 2, 3, 4, 5, 6], k ∉ L) {k : Nat} (hk : k < 7) : k ∉ L := hL k (by
  rcases (show k = 0 ∨ k = 1 ∨ k = 2 ∨ k = 3 ∨ k = 4 ∨ k = 5 ∨ k = 6 by omega) with rfl | rfl | rfl | rfl | rfl | rfl | rfl <;> decide)
theorem RI.tell {tr : aM} {N : Nat} {o : Nat → Int32} {F : Nat → Nat → Int32} {u : mS} (h : RI tr N o F) (hK : Kq LTa o F u) : RI tr N u.1 u.2 ∧ ∀ k, k < 7 → u.2 k = F k := by
  obtain ⟨h1, h2, h3, h4, h5⟩ := h
  have e7 : ∀ k, k < 7 → u.2 k = F k := fun k hk => (hK k (lt7 (by decide) hk)).2
  exact ⟨⟨h1.kq (hK 0 (by decide)).1 e7, h2.kq e7, h3, h4.kq hK (by decide), h5.keep (hK 61 (by decide)).1 (hK 66 (by decide)).1 (hK 52 (by decide)).2 (hK 53 (by decide)).2 (hK 54 (by decide)).2 (hK 55 (by decide)).2⟩, e7⟩
theorem RI.work {tr : aM} {N : Nat} {o : Nat → Int32} {F : Nat → Nat → Int32} {u : mS} (h : RI tr N o F) (hK : Kq LWa o F u) (hV : WV u.1 u.2) : RI tr N u.1 u.2 ∧ ∀ k, k < 7 → u.2 k = F k := by
  obtain ⟨h1, h2, h3, h4, h5⟩ := h
  have e7 : ∀ k, k < 7 → u.2 k = F k := fun k hk => (hK k (lt7 (by decide) hk)).2
  exact ⟨⟨h1.kq (hK 0 (by decide)).1 e7, h2.kq e7, h3, h4.kq hK (by decide), hV⟩, e7⟩
theorem RI.type {tr : aM} {N : Nat} {o : Nat → Int32} {F : Nat → Nat → Int32} {u : mS} {z : aS} {t : Nat} (h : RI tr N o F) (hM : ∃ ix, MR z ix u.1 u.2) (h22 : u.1 22 = (if sto z = 0 then 1 else 0)) (h23 : sto z = 0 → u.1 23 = nI t ∧ t < nT z) (hk : ∀ k, k < 7 ∨ 45 < k → u.1 k = o k ∧ u.2 k = F k) : RI tr N u.1 u.2 ∧ ∀ k, k < 7 → u.2 k = F k := by
  obtain ⟨h1, h2, h3, h4, h5⟩ := h
  have e7 : ∀ k, k < 7 → u.2 k = F k := fun k h => (hk k (Or.inl h)).2
  obtain ⟨ix, hM⟩ := hM
  refine ⟨⟨h1.kq (hk 0 (by decide)).1 e7, h2.kq e7, h3, Or.inr ⟨z, ix, hM, fun hz => ?_⟩, h5.keep (hk 61 (by decide)).1 (hk 66 (by decide)).1 (hk 52 (by decide)).2 (hk 53 (by decide)).2 (hk 54 (by decide)).2 (hk 55 (by decide)).2⟩, e7⟩
  by_cases h0 : sto z = 0
  · exact ⟨t, h23 h0⟩
  · rw [h22, if_neg h0] at hz
    exact absurd rfl hz
theorem TRf.inv {tr : aM} {N : Nat} {o : Nat → Int32} {F : Nat → Nat → Int32} (h : TRm tr N o F) {q : Nat} (hq : q < N) (h9 : F 6 q = -9) : tr 3 q = 0 := by
  by_cases h0 : tr 3 q = 0
  · exact h0
  · obtain ⟨a, b⟩ := (h.2.2 q hq).2.2.2.2.2.1 h0
    rw [h9] at a
    exact absurd a.symm (nI_neg (by decide) (by have := h.2.1; omega))
theorem RI.node {tr : aM} {N k v : Nat} {qs : List Nat} {o : Nat → Int32} {F F' : Nat → Nat → Int32} {vm : Int32} (h : RI tr N o F) (hN : N < 120) (hF : NodeF F F' N (nI k) vm qs) (hk : k ≤ 11) (hp : prts k qs.length = qs.length) (hl : qs.length ≤ 3) (hk5 : k = 5 → qs = []) (hq : ∀ q ∈ qs, q < N ∧ F 6 q = -9) (hd : qs.Nodup) (hv : (k = 2 ∨ k = 3 ∨ k = 6 ∨ k = 7 ∨ k = 8) → vm = nI v ∧ v < 26) : RI (trN tr N k v qs) (N + 1) (upd o 0 (nI (N + 1))) F' := by
  obtain ⟨h1, h2, h3, h4, h5⟩ := h
  obtain ⟨f1, f2, f3, f6, f45, f45N, fo⟩ := hF
  have hq0 : ∀ q ∈ qs, q < N ∧ tr 3 q = 0 := fun q hm => ⟨(hq q hm).1, TRf.inv h1 (hq q hm).1 (hq q hm).2⟩
  have e6 : ∀ j, j < N → F' 6 j = if j ∈ qs then nI N else F 6 j := fun j hj => by rw [f6 j (by omega), if_neg (show ¬ j = N by omega)]
  have nN : N ∉ qs := fun hm => by have := (hq N hm).1; omega
  have hK : Kq [0, 1, 2, 3, 4, 5, 6] o F (upd o 0 (nI (N + 1)), F') := fun j hj => by
    have : 7 ≤ j := by
      simp only [List.mem_cons, List.not_mem_nil, or_false] at hj
      omega
    exact ⟨upd_n (by omega), fo j this⟩
  refine ⟨h1.node hN hk hp hl hk5 hq0 hd upd_s f1 (fun j hj => by rw [f2, upd_n (by omega)]) (fun z => by rw [f2, upd_s]; exact hv z) f3 f45 (fun i hi => by rw [(f45N i (by omega)).1, if_pos hi]) e6, h2.node e6 (by rw [f6 N (Nat.le_refl _), if_neg nN, if_pos rfl]), h3.node hd hp, h4.kq hK (by decide), h5.keep (upd_n (by decide)) (upd_n (by decide)) (fo 52 (by decide)) (fo 53 (by decide)) (fo 54 (by decide)) (fo 55 (by decide))⟩
