/-! ===== the class: a NODE more ===== -/
theorem uT_0 {S : cS} {g2 g3 g4 g5 : Nat → Int32} : kF (uT S g2 g3 g4 g5) 0 = kF S 0 := rfl
theorem uT_1 {S : cS} {g2 g3 g4 g5 : Nat → Int32} : kF (uT S g2 g3 g4 g5) 1 = kF S 1 := rfl
theorem six_s {f0 f g : Nat → Int32} {N i : Nat} (h1 : ∀ j, j < 6 * N → f j = f0 j) (h2 : ∀ w, w < i → f (6 * N + w) = -9) (a : ∀ j, j < 6 * N + i → g j = f j) (b : g (6 * N + i) = -9) : (∀ j, j < 6 * N → g j = f0 j) ∧ ∀ w, w < i + 1 → g (6 * N + w) = -9 := by
  refine ⟨fun j hj => (a j (by omega)).trans (h1 j hj), fun w hw => ?_⟩
  by_cases e : w = i
  · rw [e]; exact b
  · rw [a _ (by omega)]
    exact h2 w (by omega)
theorem i5_of {i j : Nat} (h : i + (j + 1) = 6) : i ≤ 5 := by omega
theorem s6_of {i j : Nat} (h : i + (j + 1) = 6) : i + 1 + j = 6 := by omega
theorem nge6 {i : Nat} (h : i ≤ 5) : ¬ (6 : Int32) ≤ nI i := fun h1 => by
  have h2 := (nI_leI (a := 6) (b := i) (by omega) (by omega)).mp h1
  omega
theorem ad6 {S : cS} {r N i : Nat} (hk : kK S r = 6 * N + i) (hN : N < 120) (h : i ≤ 5) (hl : lim r = 720) : kK S r < lim r := by omega
theorem ad7 {S : cS} {r N : Nat} (hk : kK S r = N) (hN : N < 120) (hl : lim r = 120) : kK S r < lim r := by omega
theorem ad_F2 {S u : cS} {r n q N : Nat} {g : Nat → Int32} {x : Int32} (hu : u = uR S r (kK S r + 1) n q g) (h1 : ∀ j, j < kK S r → g j = kF S r j) (h2 : g (kK S r) = x) (hk : kK S r = N) : (∀ j, j < N → kF u r j = kF S r j) ∧ kF u r N = x := by
  obtain ⟨a, b⟩ := ad_F hu h1 h2
  rw [hk] at a b
  exact ⟨a, b⟩
def ANP (S u : cS) (N : Nat) (kd vv na nb nc : Int32) : Prop := ∃ g0 g1 g2 g3 g4 g5 : Nat → Int32, (((∀ j, j < N → g0 j = kF S 0 j) ∧ g0 N = kd) ∧ ((∀ j, j < N → g1 j = kF S 1 j) ∧ g1 N = t_mark kd vv) ∧ ((∀ j, j < N → g2 j = kF S 2 j) ∧ g2 N = -9) ∧ ((∀ j, j < N → g3 j = kF S 3 j) ∧ g3 N = 0) ∧ ((∀ j, j < 6 * N → g4 j = kF S 4 j) ∧ ∀ w, w < 6 → g4 (6 * N + w) = -9) ∧ ((∀ j, j < 6 * N → g5 j = kF S 5 j) ∧ ∀ w, w < 6 → g5 (6 * N + w) = -9)) ∧ TI u (N + 1) ∧ kF u 0 = g0 ∧ kF u 1 = g1 ∧ kF u 2 = b2_3 g2 g3 (N + 1) (nI N) (p_parts kd) na nb nc ∧ kF u 3 = b3_3 g3 (N + 1) (nI N) (p_parts kd) ∧ kF u 4 = bg_3 g4 g3 (N + 1) (nI N) (p_parts kd) na nb nc ∧ kF u 5 = bg_3 g5 g3 (N + 1) (nI N) (p_parts kd) (-9) (-9) (-9)

